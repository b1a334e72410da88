/-! the rules: an instruction, a row -/
theorem hx_kd_n {k a n b : Nat} (h : hx_kd k = (a, n, b)) (ha : a ≠ 9) : n < 2 ^ 31 := by
  have e : ∀ j, j < 124 → (hx_kd j).2.1 < 3000 := by decide +kernel
  have := e k (hx_kd_lt h ha)
  rw [h] at this
  have h2 : n < 3000 := this
  omega
section WLR
variable {l : Launch} {D : va_G} {ad : Nat → Nat} {cy : Nat → ClassId} {own : String} {cc : ByteArray} {nL d : Nat} {X : HX} {pc : Nat} {lv lv' : List (Nat × Value)} {st : List Value} {I : MI} {J : MJ}
theorem wl_iconst (hZ : Rl l D ad cy own cc nL d X) {n : Int} {v : Int32} (hdg : decode cc pc = .ok (.iconst n, 1)) (hv : Int32.ofInt n = v) (k : X (pc + 1) lv (.int v :: st) I J) : X pc lv (st) I J := by
  obtain ⟨p, e, R, s, m, args, below, meth, c, A, cells, slots, Q, hx, hb, hml, hown, hts, hK, hA, hj, hR, rfl⟩ := hZ
  intro H locs ls hP hS hl
  exact lv_iconst hx hb hdg hv (k H locs ls hP hS hl)
theorem wl_bipush (hZ : Rl l D ad cy own cc nL d X) {n : Int} {v : Int32} (hdg : decode cc pc = .ok (.bipush n, 2)) (hv : (Int8.ofInt n).toInt32 = v) (k : X (pc + 2) lv (.int v :: st) I J) : X pc lv (st) I J := by
  obtain ⟨p, e, R, s, m, args, below, meth, c, A, cells, slots, Q, hx, hb, hml, hown, hts, hK, hA, hj, hR, rfl⟩ := hZ
  intro H locs ls hP hS hl
  exact lv_bipush hx hb hdg hv (k H locs ls hP hS hl)
theorem wl_sipush (hZ : Rl l D ad cy own cc nL d X) {n : Int} {v : Int32} (hdg : decode cc pc = .ok (.sipush n, 3)) (hv : (Int16.ofInt n).toInt32 = v) (k : X (pc + 3) lv (.int v :: st) I J) : X pc lv (st) I J := by
  obtain ⟨p, e, R, s, m, args, below, meth, c, A, cells, slots, Q, hx, hb, hml, hown, hts, hK, hA, hj, hR, rfl⟩ := hZ
  intro H locs ls hP hS hl
  exact lv_sipush hx hb hdg hv (k H locs ls hP hS hl)
theorem wl_lconst (hZ : Rl l D ad cy own cc nL d X) {n : Fin 2} {v : Int64} (hdg : decode cc pc = .ok (.lconst n, 1)) (hv : Int64.ofNat (n : Nat) = v) (k : X (pc + 1) lv (.long v :: st) I J) : X pc lv (st) I J := by
  obtain ⟨p, e, R, s, m, args, below, meth, c, A, cells, slots, Q, hx, hb, hml, hown, hts, hK, hA, hj, hR, rfl⟩ := hZ
  intro H locs ls hP hS hl
  exact lv_lconst hx hb hdg hv (k H locs ls hP hS hl)
theorem wl_iadd (hZ : Rl l D ad cy own cc nL d X) {x y : Int32} (hdg : decode cc pc = .ok (.iadd, 1)) (k : X (pc + 1) lv (.int (x + y) :: st) I J) : X pc lv (.int y :: .int x :: st) I J := by
  obtain ⟨p, e, R, s, m, args, below, meth, c, A, cells, slots, Q, hx, hb, hml, hown, hts, hK, hA, hj, hR, rfl⟩ := hZ
  intro H locs ls hP hS hl
  exact lv_iadd hx hb hdg (k H locs ls hP hS hl)
theorem wl_isub (hZ : Rl l D ad cy own cc nL d X) {x y : Int32} (hdg : decode cc pc = .ok (.isub, 1)) (k : X (pc + 1) lv (.int (x - y) :: st) I J) : X pc lv (.int y :: .int x :: st) I J := by
  obtain ⟨p, e, R, s, m, args, below, meth, c, A, cells, slots, Q, hx, hb, hml, hown, hts, hK, hA, hj, hR, rfl⟩ := hZ
  intro H locs ls hP hS hl
  exact lv_isub hx hb hdg (k H locs ls hP hS hl)
theorem wl_imul (hZ : Rl l D ad cy own cc nL d X) {x y : Int32} (hdg : decode cc pc = .ok (.imul, 1)) (k : X (pc + 1) lv (.int (x * y) :: st) I J) : X pc lv (.int y :: .int x :: st) I J := by
  obtain ⟨p, e, R, s, m, args, below, meth, c, A, cells, slots, Q, hx, hb, hml, hown, hts, hK, hA, hj, hR, rfl⟩ := hZ
  intro H locs ls hP hS hl
  exact lv_imul hx hb hdg (k H locs ls hP hS hl)
theorem wl_iand (hZ : Rl l D ad cy own cc nL d X) {x y : Int32} (hdg : decode cc pc = .ok (.iand, 1)) (k : X (pc + 1) lv (.int (x &&& y) :: st) I J) : X pc lv (.int y :: .int x :: st) I J := by
  obtain ⟨p, e, R, s, m, args, below, meth, c, A, cells, slots, Q, hx, hb, hml, hown, hts, hK, hA, hj, hR, rfl⟩ := hZ
  intro H locs ls hP hS hl
  exact lv_iand hx hb hdg (k H locs ls hP hS hl)
theorem wl_ior (hZ : Rl l D ad cy own cc nL d X) {x y : Int32} (hdg : decode cc pc = .ok (.ior, 1)) (k : X (pc + 1) lv (.int (x ||| y) :: st) I J) : X pc lv (.int y :: .int x :: st) I J := by
  obtain ⟨p, e, R, s, m, args, below, meth, c, A, cells, slots, Q, hx, hb, hml, hown, hts, hK, hA, hj, hR, rfl⟩ := hZ
  intro H locs ls hP hS hl
  exact lv_ior hx hb hdg (k H locs ls hP hS hl)
theorem wl_idiv (hZ : Rl l D ad cy own cc nL d X) {x y : Int32} (hdg : decode cc pc = .ok (.idiv, 1)) (hne : ¬ y = 0) (k : X (pc + 1) lv (.int (x / y) :: st) I J) : X pc lv (.int y :: .int x :: st) I J := by
  obtain ⟨p, e, R, s, m, args, below, meth, c, A, cells, slots, Q, hx, hb, hml, hown, hts, hK, hA, hj, hR, rfl⟩ := hZ
  intro H locs ls hP hS hl
  exact lv_idiv hx hb hdg hne (k H locs ls hP hS hl)
theorem wl_irem (hZ : Rl l D ad cy own cc nL d X) {x y : Int32} (hdg : decode cc pc = .ok (.irem, 1)) (hne : ¬ y = 0) (k : X (pc + 1) lv (.int (x - x / y * y) :: st) I J) : X pc lv (.int y :: .int x :: st) I J := by
  obtain ⟨p, e, R, s, m, args, below, meth, c, A, cells, slots, Q, hx, hb, hml, hown, hts, hK, hA, hj, hR, rfl⟩ := hZ
  intro H locs ls hP hS hl
  exact lv_irem hx hb hdg hne (k H locs ls hP hS hl)
theorem wl_ineg (hZ : Rl l D ad cy own cc nL d X) {x : Int32} (hdg : decode cc pc = .ok (.ineg, 1)) (k : X (pc + 1) lv (.int (-x) :: st) I J) : X pc lv (.int x :: st) I J := by
  obtain ⟨p, e, R, s, m, args, below, meth, c, A, cells, slots, Q, hx, hb, hml, hown, hts, hK, hA, hj, hR, rfl⟩ := hZ
  intro H locs ls hP hS hl
  exact lv_ineg hx hb hdg (k H locs ls hP hS hl)
theorem wl_ladd (hZ : Rl l D ad cy own cc nL d X) {x y : Int64} (hdg : decode cc pc = .ok (.ladd, 1)) (k : X (pc + 1) lv (.long (x + y) :: st) I J) : X pc lv (.long y :: .long x :: st) I J := by
  obtain ⟨p, e, R, s, m, args, below, meth, c, A, cells, slots, Q, hx, hb, hml, hown, hts, hK, hA, hj, hR, rfl⟩ := hZ
  intro H locs ls hP hS hl
  exact lv_ladd hx hb hdg (k H locs ls hP hS hl)
theorem wl_lsub (hZ : Rl l D ad cy own cc nL d X) {x y : Int64} (hdg : decode cc pc = .ok (.lsub, 1)) (k : X (pc + 1) lv (.long (x - y) :: st) I J) : X pc lv (.long y :: .long x :: st) I J := by
  obtain ⟨p, e, R, s, m, args, below, meth, c, A, cells, slots, Q, hx, hb, hml, hown, hts, hK, hA, hj, hR, rfl⟩ := hZ
  intro H locs ls hP hS hl
  exact lv_lsub hx hb hdg (k H locs ls hP hS hl)
theorem wl_lmul (hZ : Rl l D ad cy own cc nL d X) {x y : Int64} (hdg : decode cc pc = .ok (.lmul, 1)) (k : X (pc + 1) lv (.long (x * y) :: st) I J) : X pc lv (.long y :: .long x :: st) I J := by
  obtain ⟨p, e, R, s, m, args, below, meth, c, A, cells, slots, Q, hx, hb, hml, hown, hts, hK, hA, hj, hR, rfl⟩ := hZ
  intro H locs ls hP hS hl
  exact lv_lmul hx hb hdg (k H locs ls hP hS hl)
theorem wl_land (hZ : Rl l D ad cy own cc nL d X) {x y : Int64} (hdg : decode cc pc = .ok (.land, 1)) (k : X (pc + 1) lv (.long (x &&& y) :: st) I J) : X pc lv (.long y :: .long x :: st) I J := by
  obtain ⟨p, e, R, s, m, args, below, meth, c, A, cells, slots, Q, hx, hb, hml, hown, hts, hK, hA, hj, hR, rfl⟩ := hZ
  intro H locs ls hP hS hl
  exact lv_land hx hb hdg (k H locs ls hP hS hl)
theorem wl_lor (hZ : Rl l D ad cy own cc nL d X) {x y : Int64} (hdg : decode cc pc = .ok (.lor, 1)) (k : X (pc + 1) lv (.long (x ||| y) :: st) I J) : X pc lv (.long y :: .long x :: st) I J := by
  obtain ⟨p, e, R, s, m, args, below, meth, c, A, cells, slots, Q, hx, hb, hml, hown, hts, hK, hA, hj, hR, rfl⟩ := hZ
  intro H locs ls hP hS hl
  exact lv_lor hx hb hdg (k H locs ls hP hS hl)
theorem wl_ldiv (hZ : Rl l D ad cy own cc nL d X) {x y : Int64} (hdg : decode cc pc = .ok (.ldiv, 1)) (hne : ¬ y = 0) (k : X (pc + 1) lv (.long (x / y) :: st) I J) : X pc lv (.long y :: .long x :: st) I J := by
  obtain ⟨p, e, R, s, m, args, below, meth, c, A, cells, slots, Q, hx, hb, hml, hown, hts, hK, hA, hj, hR, rfl⟩ := hZ
  intro H locs ls hP hS hl
  exact lv_ldiv hx hb hdg hne (k H locs ls hP hS hl)
theorem wl_lrem (hZ : Rl l D ad cy own cc nL d X) {x y : Int64} (hdg : decode cc pc = .ok (.lrem, 1)) (hne : ¬ y = 0) (k : X (pc + 1) lv (.long (x - x / y * y) :: st) I J) : X pc lv (.long y :: .long x :: st) I J := by
  obtain ⟨p, e, R, s, m, args, below, meth, c, A, cells, slots, Q, hx, hb, hml, hown, hts, hK, hA, hj, hR, rfl⟩ := hZ
  intro H locs ls hP hS hl
  exact lv_lrem hx hb hdg hne (k H locs ls hP hS hl)
theorem wl_lneg (hZ : Rl l D ad cy own cc nL d X) {x : Int64} (hdg : decode cc pc = .ok (.lneg, 1)) (k : X (pc + 1) lv (.long (-x) :: st) I J) : X pc lv (.long x :: st) I J := by
  obtain ⟨p, e, R, s, m, args, below, meth, c, A, cells, slots, Q, hx, hb, hml, hown, hts, hK, hA, hj, hR, rfl⟩ := hZ
  intro H locs ls hP hS hl
  exact lv_lneg hx hb hdg (k H locs ls hP hS hl)
theorem wl_ishl (hZ : Rl l D ad cy own cc nL d X) {x y : Int32} (hdg : decode cc pc = .ok (.ishl, 1)) (k : X (pc + 1) lv (.int (x <<< (y &&& 31)) :: st) I J) : X pc lv (.int y :: .int x :: st) I J := by
  obtain ⟨p, e, R, s, m, args, below, meth, c, A, cells, slots, Q, hx, hb, hml, hown, hts, hK, hA, hj, hR, rfl⟩ := hZ
  intro H locs ls hP hS hl
  exact lv_ishl hx hb hdg (k H locs ls hP hS hl)
theorem wl_ishr (hZ : Rl l D ad cy own cc nL d X) {x y : Int32} (hdg : decode cc pc = .ok (.ishr, 1)) (k : X (pc + 1) lv (.int (x >>> (y &&& 31)) :: st) I J) : X pc lv (.int y :: .int x :: st) I J := by
  obtain ⟨p, e, R, s, m, args, below, meth, c, A, cells, slots, Q, hx, hb, hml, hown, hts, hK, hA, hj, hR, rfl⟩ := hZ
  intro H locs ls hP hS hl
  exact lv_ishr hx hb hdg (k H locs ls hP hS hl)
theorem wl_iushr (hZ : Rl l D ad cy own cc nL d X) {x y v : Int32} (hdg : decode cc pc = .ok (.iushr, 1)) (hv : (x.toUInt32 >>> (y.toUInt32 &&& Int32.toUInt32 31)).toInt32 = v) (k : X (pc + 1) lv (.int v :: st) I J) : X pc lv (.int y :: .int x :: st) I J := by
  obtain ⟨p, e, R, s, m, args, below, meth, c, A, cells, slots, Q, hx, hb, hml, hown, hts, hK, hA, hj, hR, rfl⟩ := hZ
  intro H locs ls hP hS hl
  exact lv_iushr hx hb hdg hv (k H locs ls hP hS hl)
theorem wl_lshl (hZ : Rl l D ad cy own cc nL d X) {x v : Int64} {y : Int32} (hdg : decode cc pc = .ok (.lshl, 1)) (hv : x <<< (y.toInt64 &&& 63) = v) (k : X (pc + 1) lv (.long v :: st) I J) : X pc lv (.int y :: .long x :: st) I J := by
  obtain ⟨p, e, R, s, m, args, below, meth, c, A, cells, slots, Q, hx, hb, hml, hown, hts, hK, hA, hj, hR, rfl⟩ := hZ
  intro H locs ls hP hS hl
  exact lv_lshl hx hb hdg hv (k H locs ls hP hS hl)
theorem wl_lshr (hZ : Rl l D ad cy own cc nL d X) {x v : Int64} {y : Int32} (hdg : decode cc pc = .ok (.lshr, 1)) (hv : x >>> (y.toInt64 &&& 63) = v) (k : X (pc + 1) lv (.long v :: st) I J) : X pc lv (.int y :: .long x :: st) I J := by
  obtain ⟨p, e, R, s, m, args, below, meth, c, A, cells, slots, Q, hx, hb, hml, hown, hts, hK, hA, hj, hR, rfl⟩ := hZ
  intro H locs ls hP hS hl
  exact lv_lshr hx hb hdg hv (k H locs ls hP hS hl)
theorem wl_i2l (hZ : Rl l D ad cy own cc nL d X) {x : Int32} {v : Int64} (hdg : decode cc pc = .ok (.i2l, 1)) (hv : x.toInt64 = v) (k : X (pc + 1) lv (.long v :: st) I J) : X pc lv (.int x :: st) I J := by
  obtain ⟨p, e, R, s, m, args, below, meth, c, A, cells, slots, Q, hx, hb, hml, hown, hts, hK, hA, hj, hR, rfl⟩ := hZ
  intro H locs ls hP hS hl
  exact lv_i2l hx hb hdg hv (k H locs ls hP hS hl)
theorem wl_l2i (hZ : Rl l D ad cy own cc nL d X) {x : Int64} {v : Int32} (hdg : decode cc pc = .ok (.l2i, 1)) (hv : x.toInt32 = v) (k : X (pc + 1) lv (.int v :: st) I J) : X pc lv (.long x :: st) I J := by
  obtain ⟨p, e, R, s, m, args, below, meth, c, A, cells, slots, Q, hx, hb, hml, hown, hts, hK, hA, hj, hR, rfl⟩ := hZ
  intro H locs ls hP hS hl
  exact lv_l2i hx hb hdg hv (k H locs ls hP hS hl)
theorem wl_dup (hZ : Rl l D ad cy own cc nL d X) {va : Value} (hdg : decode cc pc = .ok (.dup, 1)) (hva : va.category = 1) (k : X (pc + 1) lv (va :: va :: st) I J) : X pc lv (va :: st) I J := by
  obtain ⟨p, e, R, s, m, args, below, meth, c, A, cells, slots, Q, hx, hb, hml, hown, hts, hK, hA, hj, hR, rfl⟩ := hZ
  intro H locs ls hP hS hl
  exact lv_dup hx hb hdg hva (k H locs ls hP hS hl)
theorem wl_dup2_11 (hZ : Rl l D ad cy own cc nL d X) {va vb : Value} (hdg : decode cc pc = .ok (.dup2, 1)) (hva : va.category = 1) (hvb : vb.category = 1) (k : X (pc + 1) lv (va :: vb :: va :: vb :: st) I J) : X pc lv (va :: vb :: st) I J := by
  obtain ⟨p, e, R, s, m, args, below, meth, c, A, cells, slots, Q, hx, hb, hml, hown, hts, hK, hA, hj, hR, rfl⟩ := hZ
  intro H locs ls hP hS hl
  exact lv_dup2_11 hx hb hdg hva hvb (k H locs ls hP hS hl)
theorem wl_goto (hZ : Rl l D ad cy own cc nL d X) {off : Int} {tgt : Nat} (hdg : decode cc pc = .ok (.goto off, 3)) (ht : (pc : Int) + off = (tgt : Int)) (k : X tgt lv st I J) : X pc lv st I J := by
  obtain ⟨p, e, R, s, m, args, below, meth, c, A, cells, slots, Q, hx, hb, hml, hown, hts, hK, hA, hj, hR, rfl⟩ := hZ
  intro H locs ls hP hS hl
  exact lv_goto hx hb hdg ht (k H locs ls hP hS hl)
theorem wl_if_eq (hZ : Rl l D ad cy own cc nL d X) {x : Int32} {off : Int} {tgt : Nat} (hdg : decode cc pc = .ok (.ifCond .eq off, 3)) (ht : (pc : Int) + off = (tgt : Int)) (kt : x = 0 → X tgt lv st I J) (kf : ¬ x = 0 → X (pc + 3) lv st I J) : X pc lv (.int x :: st) I J := by
  obtain ⟨p, e, R, s, m, args, below, meth, c, A, cells, slots, Q, hx, hb, hml, hown, hts, hK, hA, hj, hR, rfl⟩ := hZ
  intro H locs ls hP hS hl
  exact lv_if_eq hx hb hdg ht (fun w => kt w H locs ls hP hS hl) (fun w => kf w H locs ls hP hS hl)
theorem wl_if_ne (hZ : Rl l D ad cy own cc nL d X) {x : Int32} {off : Int} {tgt : Nat} (hdg : decode cc pc = .ok (.ifCond .ne off, 3)) (ht : (pc : Int) + off = (tgt : Int)) (kt : ¬ x = 0 → X tgt lv st I J) (kf : x = 0 → X (pc + 3) lv st I J) : X pc lv (.int x :: st) I J := by
  obtain ⟨p, e, R, s, m, args, below, meth, c, A, cells, slots, Q, hx, hb, hml, hown, hts, hK, hA, hj, hR, rfl⟩ := hZ
  intro H locs ls hP hS hl
  exact lv_if_ne hx hb hdg ht (fun w => kt w H locs ls hP hS hl) (fun w => kf w H locs ls hP hS hl)
theorem wl_if_lt (hZ : Rl l D ad cy own cc nL d X) {x : Int32} {off : Int} {tgt : Nat} (hdg : decode cc pc = .ok (.ifCond .lt off, 3)) (ht : (pc : Int) + off = (tgt : Int)) (kt : x < 0 → X tgt lv st I J) (kf : ¬ x < 0 → X (pc + 3) lv st I J) : X pc lv (.int x :: st) I J := by
  obtain ⟨p, e, R, s, m, args, below, meth, c, A, cells, slots, Q, hx, hb, hml, hown, hts, hK, hA, hj, hR, rfl⟩ := hZ
  intro H locs ls hP hS hl
  exact lv_if_lt hx hb hdg ht (fun w => kt w H locs ls hP hS hl) (fun w => kf w H locs ls hP hS hl)
theorem wl_if_ge (hZ : Rl l D ad cy own cc nL d X) {x : Int32} {off : Int} {tgt : Nat} (hdg : decode cc pc = .ok (.ifCond .ge off, 3)) (ht : (pc : Int) + off = (tgt : Int)) (kt : 0 ≤ x → X tgt lv st I J) (kf : ¬ 0 ≤ x → X (pc + 3) lv st I J) : X pc lv (.int x :: st) I J := by
  obtain ⟨p, e, R, s, m, args, below, meth, c, A, cells, slots, Q, hx, hb, hml, hown, hts, hK, hA, hj, hR, rfl⟩ := hZ
  intro H locs ls hP hS hl
  exact lv_if_ge hx hb hdg ht (fun w => kt w H locs ls hP hS hl) (fun w => kf w H locs ls hP hS hl)
theorem wl_if_gt (hZ : Rl l D ad cy own cc nL d X) {x : Int32} {off : Int} {tgt : Nat} (hdg : decode cc pc = .ok (.ifCond .gt off, 3)) (ht : (pc : Int) + off = (tgt : Int)) (kt : 0 < x → X tgt lv st I J) (kf : ¬ 0 < x → X (pc + 3) lv st I J) : X pc lv (.int x :: st) I J := by
  obtain ⟨p, e, R, s, m, args, below, meth, c, A, cells, slots, Q, hx, hb, hml, hown, hts, hK, hA, hj, hR, rfl⟩ := hZ
  intro H locs ls hP hS hl
  exact lv_if_gt hx hb hdg ht (fun w => kt w H locs ls hP hS hl) (fun w => kf w H locs ls hP hS hl)
theorem wl_if_le (hZ : Rl l D ad cy own cc nL d X) {x : Int32} {off : Int} {tgt : Nat} (hdg : decode cc pc = .ok (.ifCond .le off, 3)) (ht : (pc : Int) + off = (tgt : Int)) (kt : x ≤ 0 → X tgt lv st I J) (kf : ¬ x ≤ 0 → X (pc + 3) lv st I J) : X pc lv (.int x :: st) I J := by
  obtain ⟨p, e, R, s, m, args, below, meth, c, A, cells, slots, Q, hx, hb, hml, hown, hts, hK, hA, hj, hR, rfl⟩ := hZ
  intro H locs ls hP hS hl
  exact lv_if_le hx hb hdg ht (fun w => kt w H locs ls hP hS hl) (fun w => kf w H locs ls hP hS hl)
theorem wl_icmp_eq (hZ : Rl l D ad cy own cc nL d X) {x y : Int32} {off : Int} {tgt : Nat} (hdg : decode cc pc = .ok (.if_icmp .eq off, 3)) (ht : (pc : Int) + off = (tgt : Int)) (kt : x = y → X tgt lv st I J) (kf : ¬ x = y → X (pc + 3) lv st I J) : X pc lv (.int y :: .int x :: st) I J := by
  obtain ⟨p, e, R, s, m, args, below, meth, c, A, cells, slots, Q, hx, hb, hml, hown, hts, hK, hA, hj, hR, rfl⟩ := hZ
  intro H locs ls hP hS hl
  exact lv_icmp_eq hx hb hdg ht (fun w => kt w H locs ls hP hS hl) (fun w => kf w H locs ls hP hS hl)
theorem wl_icmp_ne (hZ : Rl l D ad cy own cc nL d X) {x y : Int32} {off : Int} {tgt : Nat} (hdg : decode cc pc = .ok (.if_icmp .ne off, 3)) (ht : (pc : Int) + off = (tgt : Int)) (kt : ¬ x = y → X tgt lv st I J) (kf : x = y → X (pc + 3) lv st I J) : X pc lv (.int y :: .int x :: st) I J := by
  obtain ⟨p, e, R, s, m, args, below, meth, c, A, cells, slots, Q, hx, hb, hml, hown, hts, hK, hA, hj, hR, rfl⟩ := hZ
  intro H locs ls hP hS hl
  exact lv_icmp_ne hx hb hdg ht (fun w => kt w H locs ls hP hS hl) (fun w => kf w H locs ls hP hS hl)
theorem wl_icmp_lt (hZ : Rl l D ad cy own cc nL d X) {x y : Int32} {off : Int} {tgt : Nat} (hdg : decode cc pc = .ok (.if_icmp .lt off, 3)) (ht : (pc : Int) + off = (tgt : Int)) (kt : x < y → X tgt lv st I J) (kf : ¬ x < y → X (pc + 3) lv st I J) : X pc lv (.int y :: .int x :: st) I J := by
  obtain ⟨p, e, R, s, m, args, below, meth, c, A, cells, slots, Q, hx, hb, hml, hown, hts, hK, hA, hj, hR, rfl⟩ := hZ
  intro H locs ls hP hS hl
  exact lv_icmp_lt hx hb hdg ht (fun w => kt w H locs ls hP hS hl) (fun w => kf w H locs ls hP hS hl)
theorem wl_icmp_ge (hZ : Rl l D ad cy own cc nL d X) {x y : Int32} {off : Int} {tgt : Nat} (hdg : decode cc pc = .ok (.if_icmp .ge off, 3)) (ht : (pc : Int) + off = (tgt : Int)) (kt : y ≤ x → X tgt lv st I J) (kf : ¬ y ≤ x → X (pc + 3) lv st I J) : X pc lv (.int y :: .int x :: st) I J := by
  obtain ⟨p, e, R, s, m, args, below, meth, c, A, cells, slots, Q, hx, hb, hml, hown, hts, hK, hA, hj, hR, rfl⟩ := hZ
  intro H locs ls hP hS hl
  exact lv_icmp_ge hx hb hdg ht (fun w => kt w H locs ls hP hS hl) (fun w => kf w H locs ls hP hS hl)
theorem wl_icmp_gt (hZ : Rl l D ad cy own cc nL d X) {x y : Int32} {off : Int} {tgt : Nat} (hdg : decode cc pc = .ok (.if_icmp .gt off, 3)) (ht : (pc : Int) + off = (tgt : Int)) (kt : y < x → X tgt lv st I J) (kf : ¬ y < x → X (pc + 3) lv st I J) : X pc lv (.int y :: .int x :: st) I J := by
  obtain ⟨p, e, R, s, m, args, below, meth, c, A, cells, slots, Q, hx, hb, hml, hown, hts, hK, hA, hj, hR, rfl⟩ := hZ
  intro H locs ls hP hS hl
  exact lv_icmp_gt hx hb hdg ht (fun w => kt w H locs ls hP hS hl) (fun w => kf w H locs ls hP hS hl)
theorem wl_icmp_le (hZ : Rl l D ad cy own cc nL d X) {x y : Int32} {off : Int} {tgt : Nat} (hdg : decode cc pc = .ok (.if_icmp .le off, 3)) (ht : (pc : Int) + off = (tgt : Int)) (kt : x ≤ y → X tgt lv st I J) (kf : ¬ x ≤ y → X (pc + 3) lv st I J) : X pc lv (.int y :: .int x :: st) I J := by
  obtain ⟨p, e, R, s, m, args, below, meth, c, A, cells, slots, Q, hx, hb, hml, hown, hts, hK, hA, hj, hR, rfl⟩ := hZ
  intro H locs ls hP hS hl
  exact lv_icmp_le hx hb hdg ht (fun w => kt w H locs ls hP hS hl) (fun w => kf w H locs ls hP hS hl)
theorem wl_tableIn (hZ : Rl l D ad cy own cc nL d X) {dflt lo hi : Int} {offs : Array Int} {len : Nat} {x : Int32} {off : Int} {tgt : Nat} (hdg : decode cc pc = .ok (.tableswitch dflt lo hi offs, len)) (h1 : ¬ x.toInt < lo) (h2 : ¬ hi < x.toInt) (ho : offs[(x.toInt - lo).toNat]? = some off) (ht : (pc : Int) + off = (tgt : Int)) (k : X tgt lv st I J) : X pc lv (.int x :: st) I J := by
  obtain ⟨p, e, R, s, m, args, below, meth, c, A, cells, slots, Q, hx, hb, hml, hown, hts, hK, hA, hj, hR, rfl⟩ := hZ
  intro H locs ls hP hS hl
  exact lv_tableIn hx hb hdg h1 h2 ho ht (k H locs ls hP hS hl)
theorem wl_tableOut (hZ : Rl l D ad cy own cc nL d X) {dflt lo hi : Int} {offs : Array Int} {len : Nat} {x : Int32} {tgt : Nat} (hdg : decode cc pc = .ok (.tableswitch dflt lo hi offs, len)) (h : x.toInt < lo ∨ hi < x.toInt) (ht : (pc : Int) + dflt = (tgt : Int)) (k : X tgt lv st I J) : X pc lv (.int x :: st) I J := by
  obtain ⟨p, e, R, s, m, args, below, meth, c, A, cells, slots, Q, hx, hb, hml, hown, hts, hK, hA, hj, hR, rfl⟩ := hZ
  intro H locs ls hP hS hl
  exact lv_tableOut hx hb hdg h ht (k H locs ls hP hS hl)
theorem wl_iload_n (hZ : Rl l D ad cy own cc nL d X) {k : Fin 4} {x : Int32} (j : Nat) (hg : lv[j]? = some ((k : Nat), .int x)) (hdg : decode cc pc = .ok (.iload_n k, 1)) (kk : X (pc + 1) lv (.int x :: st) I J) : X pc lv st I J := by
  obtain ⟨p, e, R, s, m, args, below, meth, c, A, cells, slots, Q, hx, hb, hml, hown, hts, hK, hA, hj, hR, rfl⟩ := hZ
  intro H locs ls hP hS hl
  exact lv_iload_n hx hb hdg rfl (lv_at hl j hg) (kk H locs ls hP hS hl)
theorem wl_iload (hZ : Rl l D ad cy own cc nL d X) {i : Nat} {x : Int32} (j : Nat) (hg : lv[j]? = some (i, .int x)) (hdg : decode cc pc = .ok (.iload i, 2)) (kk : X (pc + 2) lv (.int x :: st) I J) : X pc lv st I J := by
  obtain ⟨p, e, R, s, m, args, below, meth, c, A, cells, slots, Q, hx, hb, hml, hown, hts, hK, hA, hj, hR, rfl⟩ := hZ
  intro H locs ls hP hS hl
  exact lv_iload hx hb hdg (lv_at hl j hg) (kk H locs ls hP hS hl)
theorem wl_istore_n (hZ : Rl l D ad cy own cc nL d X) {k : Fin 4} {x : Int32} (hg : ((k : Nat), Value.int x) :: lv.filter (fun q => !(q.1 == (k : Nat)) && !(q.1 + 1 == (k : Nat) && q.2.category == 2)) = lv') (hn : (k : Nat) < nL) (hdg : decode cc pc = .ok (.istore_n k, 1)) (kk : X (pc + 1) lv' st I J) : X pc lv (.int x :: st) I J := by
  obtain ⟨p, e, R, s, m, args, below, meth, c, A, cells, slots, Q, hx, hb, hml, hown, hts, hK, hA, hj, hR, rfl⟩ := hZ
  intro H locs ls hP hS hl
  exact lv_istore_n hx hb hdg rfl hl hn hg (fun ls' hl' => kk H locs ls' hP hS hl')
theorem wl_istore (hZ : Rl l D ad cy own cc nL d X) {i : Nat} {x : Int32} (hg : (i, Value.int x) :: lv.filter (fun q => !(q.1 == i) && !(q.1 + 1 == i && q.2.category == 2)) = lv') (hn : i < nL) (hdg : decode cc pc = .ok (.istore i, 2)) (kk : X (pc + 2) lv' st I J) : X pc lv (.int x :: st) I J := by
  obtain ⟨p, e, R, s, m, args, below, meth, c, A, cells, slots, Q, hx, hb, hml, hown, hts, hK, hA, hj, hR, rfl⟩ := hZ
  intro H locs ls hP hS hl
  exact lv_istore hx hb hdg hl hn hg (fun ls' hl' => kk H locs ls' hP hS hl')
theorem wl_lload_n (hZ : Rl l D ad cy own cc nL d X) {k : Fin 4} {x : Int64} (j : Nat) (hg : lv[j]? = some ((k : Nat), .long x)) (hdg : decode cc pc = .ok (.lload_n k, 1)) (kk : X (pc + 1) lv (.long x :: st) I J) : X pc lv st I J := by
  obtain ⟨p, e, R, s, m, args, below, meth, c, A, cells, slots, Q, hx, hb, hml, hown, hts, hK, hA, hj, hR, rfl⟩ := hZ
  intro H locs ls hP hS hl
  exact lv_lload_n hx hb hdg rfl (lv_at hl j hg) (kk H locs ls hP hS hl)
theorem wl_lload (hZ : Rl l D ad cy own cc nL d X) {i : Nat} {x : Int64} (j : Nat) (hg : lv[j]? = some (i, .long x)) (hdg : decode cc pc = .ok (.lload i, 2)) (kk : X (pc + 2) lv (.long x :: st) I J) : X pc lv st I J := by
  obtain ⟨p, e, R, s, m, args, below, meth, c, A, cells, slots, Q, hx, hb, hml, hown, hts, hK, hA, hj, hR, rfl⟩ := hZ
  intro H locs ls hP hS hl
  exact lv_lload hx hb hdg (lv_at hl j hg) (kk H locs ls hP hS hl)
theorem wl_lstore_n (hZ : Rl l D ad cy own cc nL d X) {k : Fin 4} {x : Int64} (hg : ((k : Nat), Value.long x) :: lv.filter (fun q => !(q.1 == (k : Nat)) && (!(q.1 == (k : Nat) + 1) && !(q.1 + 1 == (k : Nat) && q.2.category == 2))) = lv') (hn : (k : Nat) + 1 < nL) (hdg : decode cc pc = .ok (.lstore_n k, 1)) (kk : X (pc + 1) lv' st I J) : X pc lv (.long x :: st) I J := by
  obtain ⟨p, e, R, s, m, args, below, meth, c, A, cells, slots, Q, hx, hb, hml, hown, hts, hK, hA, hj, hR, rfl⟩ := hZ
  intro H locs ls hP hS hl
  exact lv_lstore_n hx hb hdg rfl hl hn hg (fun ls' hl' => kk H locs ls' hP hS hl')
theorem wl_lstore (hZ : Rl l D ad cy own cc nL d X) {i : Nat} {x : Int64} (hg : (i, Value.long x) :: lv.filter (fun q => !(q.1 == i) && (!(q.1 == i + 1) && !(q.1 + 1 == i && q.2.category == 2))) = lv') (hn : i + 1 < nL) (hdg : decode cc pc = .ok (.lstore i, 2)) (kk : X (pc + 2) lv' st I J) : X pc lv (.long x :: st) I J := by
  obtain ⟨p, e, R, s, m, args, below, meth, c, A, cells, slots, Q, hx, hb, hml, hown, hts, hK, hA, hj, hR, rfl⟩ := hZ
  intro H locs ls hP hS hl
  exact lv_lstore hx hb hdg hl hn hg (fun ls' hl' => kk H locs ls' hP hS hl')
theorem wl_aload_n (hZ : Rl l D ad cy own cc nL d X) {k : Fin 4} {x : Nat} (j : Nat) (hg : lv[j]? = some ((k : Nat), .ref x)) (hdg : decode cc pc = .ok (.aload_n k, 1)) (kk : X (pc + 1) lv (.ref x :: st) I J) : X pc lv st I J := by
  obtain ⟨p, e, R, s, m, args, below, meth, c, A, cells, slots, Q, hx, hb, hml, hown, hts, hK, hA, hj, hR, rfl⟩ := hZ
  intro H locs ls hP hS hl
  exact lv_aload_n hx hb hdg rfl (lv_at hl j hg) (kk H locs ls hP hS hl)
theorem wl_aload (hZ : Rl l D ad cy own cc nL d X) {i : Nat} {x : Nat} (j : Nat) (hg : lv[j]? = some (i, .ref x)) (hdg : decode cc pc = .ok (.aload i, 2)) (kk : X (pc + 2) lv (.ref x :: st) I J) : X pc lv st I J := by
  obtain ⟨p, e, R, s, m, args, below, meth, c, A, cells, slots, Q, hx, hb, hml, hown, hts, hK, hA, hj, hR, rfl⟩ := hZ
  intro H locs ls hP hS hl
  exact lv_aload hx hb hdg (lv_at hl j hg) (kk H locs ls hP hS hl)
theorem wl_astore_n (hZ : Rl l D ad cy own cc nL d X) {k : Fin 4} {x : Nat} (hg : ((k : Nat), Value.ref x) :: lv.filter (fun q => !(q.1 == (k : Nat)) && !(q.1 + 1 == (k : Nat) && q.2.category == 2)) = lv') (hn : (k : Nat) < nL) (hdg : decode cc pc = .ok (.astore_n k, 1)) (kk : X (pc + 1) lv' st I J) : X pc lv (.ref x :: st) I J := by
  obtain ⟨p, e, R, s, m, args, below, meth, c, A, cells, slots, Q, hx, hb, hml, hown, hts, hK, hA, hj, hR, rfl⟩ := hZ
  intro H locs ls hP hS hl
  exact lv_astore_n hx hb hdg rfl hl hn hg (fun ls' hl' => kk H locs ls' hP hS hl')
theorem wl_astore (hZ : Rl l D ad cy own cc nL d X) {i : Nat} {x : Nat} (hg : (i, Value.ref x) :: lv.filter (fun q => !(q.1 == i) && !(q.1 + 1 == i && q.2.category == 2)) = lv') (hn : i < nL) (hdg : decode cc pc = .ok (.astore i, 2)) (kk : X (pc + 2) lv' st I J) : X pc lv (.ref x :: st) I J := by
  obtain ⟨p, e, R, s, m, args, below, meth, c, A, cells, slots, Q, hx, hb, hml, hown, hts, hK, hA, hj, hR, rfl⟩ := hZ
  intro H locs ls hP hS hl
  exact lv_astore hx hb hdg hl hn hg (fun ls' hl' => kk H locs ls' hP hS hl')
theorem wl_iinc (hZ : Rl l D ad cy own cc nL d X) {i : Nat} {n : Int} {x v : Int32} (j : Nat) (hg : lv[j]? = some (i, .int x)) (hv : x + Int32.ofInt n = v) (hf : (i, Value.int v) :: lv.filter (fun q => !(q.1 == i) && !(q.1 + 1 == i && q.2.category == 2)) = lv') (hn : i < nL) (hdg : decode cc pc = .ok (.iinc i n, 3)) (kk : X (pc + 3) lv' st I J) : X pc lv st I J := by
  obtain ⟨p, e, R, s, m, args, below, meth, c, A, cells, slots, Q, hx, hb, hml, hown, hts, hK, hA, hj, hR, rfl⟩ := hZ
  intro H locs ls hP hS hl
  exact lv_iinc hx hb hdg hl hg hv hn hf (fun ls' hl' => kk H locs ls' hP hS hl')
theorem wl_sub (hZ : Rl l D ad cy own cc nL d X) (ks : List Nat) (hf : lv_pick lv ks = lv') (kk : X pc lv' st I J) : X pc lv st I J := by
  obtain ⟨p, e, R, s, m, args, below, meth, c, A, cells, slots, Q, hx, hb, hml, hown, hts, hK, hA, hj, hR, rfl⟩ := hZ
  intro H locs ls hP hS hl
  exact kk H locs ls hP hS (lv_sub hl ks hf)
theorem wl_lcmp (hZ : Rl l D ad cy own cc nL d X) {x y : Int64} (hdg : decode cc pc = .ok (.lcmp, 1)) (kk : X (pc + 1) lv (.int (lg_cmp x y) :: st) I J) : X pc lv (.long y :: .long x :: st) I J := by
  obtain ⟨p, e, R, s, m, args, below, meth, c, A, cells, slots, Q, hx, hb, hml, hown, hts, hK, hA, hj, hR, rfl⟩ := hZ
  intro H locs ls hP hS hl
  exact W.lcmp hx hb hdg (kk H locs ls hP hS hl)
theorem wl_ldc (hZ : Rl l D ad cy own cc nL d X) {idx : Nat} {v : Int32} (hc : Cond.constant own idx v ∈ hx_ws) (hdg : decode cc pc = .ok (.ldc idx, 2)) (kk : X (pc + 2) lv (.int v :: st) I J) : X pc lv st I J := by
  obtain ⟨p, e, R, s, m, args, below, meth, c, A, cells, slots, Q, hx, hb, hml, hown, hts, hK, hA, hj, hR, rfl⟩ := hZ
  intro H locs ls hP hS hl
  exact lv_ldc hx hb hown (hts _ hc) hdg (kk H locs ls hP hS hl)
theorem wl_ldc2 (hZ : Rl l D ad cy own cc nL d X) {idx : Nat} {v : Int64} (hc : Cond.constantLong own idx v ∈ hx_ws) (hdg : decode cc pc = .ok (.ldc2_w idx, 3)) (kk : X (pc + 3) lv (.long v :: st) I J) : X pc lv st I J := by
  obtain ⟨p, e, R, s, m, args, below, meth, c, A, cells, slots, Q, hx, hb, hml, hown, hts, hK, hA, hj, hR, rfl⟩ := hZ
  intro H locs ls hP hS hl
  exact lv_ldc2 hx hb hown (hts _ hc) hdg (kk H locs ls hP hS hl)
theorem wl_return {post : hx_PO} (h : Rt cc none post X) (hdg : decode cc pc = .ok (.return_, 1)) (hp : post none I J) : X pc lv [] I J := h.1 rfl pc lv I J hdg hp
theorem wl_ireturn {post : hx_PO} {v : Int32} (h : Rt cc (some .int) post X) (hdg : decode cc pc = .ok (.ireturn, 1)) (hp : post (some (.int v)) I J) : X pc lv [.int v] I J := h.2.1 rfl pc lv I J v hdg hp
theorem wl_zreturn {post : hx_PO} {v : Int32} (h : Rt cc (some .boolean) post X) (hdg : decode cc pc = .ok (.ireturn, 1)) (hv : v = 0 ∨ v = 1) (hp : post (some (.int v)) I J) : X pc lv [.int v] I J := h.2.2.1 rfl pc lv I J v hdg hv hp
theorem wl_lreturn {post : hx_PO} {v : Int64} (h : Rt cc (some .long) post X) (hdg : decode cc pc = .ok (.lreturn, 1)) (hp : post (some (.long v)) I J) : X pc lv [.long v] I J := h.2.2.2 rfl pc lv I J v hdg hp
theorem wl_iald (hZ : Rl l D ad cy own cc nL d X) {k n b : Nat} {i : Int32} (q : Nat) (hk : hx_kd k = (1, n, b)) (hi : i = nI q) (hq : q < n) (hdg : decode cc pc = .ok (.iaload, 1)) (kk : X (pc + 1) lv (.int (I k q) :: st) I J) : X pc lv (.int i :: .ref (ad k) :: st) I J := by
  obtain ⟨p, e, R, s, m, args, below, meth, c, A, cells, slots, Q, hx, hb, hml, hown, hts, hK, hA, hj, hR, rfl⟩ := hZ
  intro H locs ls hP hS hl
  subst hi
  have hn := hx_kd_n hk (by decide)
  have e9 : (nI q).toNatClampNeg = q := nI_clamp (by omega)
  refine va_iald hx hb hK hP k 0 (by rw [hx_at (hx_kd_lt hk (by decide)), hx_ce1 hk]) rfl (vp_in_nI hq hn) hdg ?_
  rw [e9]
  exact kk H locs ls hP hS hl
theorem wl_iast (hZ : Rl l D ad cy own cc nL d X) {k n b : Nat} {i : Int32} {x : Int32} (q : Nat) (hk : hx_kd k = (1, n, b)) (hi : i = nI q) (hq : q < n) (hdg : decode cc pc = .ok (.iastore, 1)) (kk : X (pc + 1) lv st (hx_u I k q x) J) : X pc lv (.int x :: .int i :: .ref (ad k) :: st) I J := by
  obtain ⟨p, e, R, s, m, args, below, meth, c, A, cells, slots, Q, hx, hb, hml, hown, hts, hK, hA, hj, hR, rfl⟩ := hZ
  intro H locs ls hP hS hl
  subst hi
  have hn := hx_kd_n hk (by decide)
  have e9 : (nI q).toNatClampNeg = q := nI_clamp (by omega)
  refine va_iast hx hb hK hP (hx_D hA hj) hS k 0 (by rw [hx_at (hx_kd_lt hk (by decide)), hx_ce1 hk]) rfl (vp_in_nI hq hn) hdg (fun H1 locs1 hP1 hD1 hS1 => ?_)
  rw [e9, hx_set (I' := hx_u I k q x) (J' := J) (by rw [hx_ce1 hk, hx_u_same]) (fun a ha => hx_u_ne I q x ha) (fun _ _ => rfl)] at hP1
  exact kk H1 locs1 ls hP1 hS1 hl
theorem wl_zald (hZ : Rl l D ad cy own cc nL d X) {k n b : Nat} {i : Int32} (q : Nat) (hk : hx_kd k = (2, n, b)) (hi : i = nI q) (hq : q < n) (hdg : decode cc pc = .ok (.baload, 1)) (kk : X (pc + 1) lv (.int (I k q) :: st) I J) : X pc lv (.int i :: .ref (ad k) :: st) I J := by
  obtain ⟨p, e, R, s, m, args, below, meth, c, A, cells, slots, Q, hx, hb, hml, hown, hts, hK, hA, hj, hR, rfl⟩ := hZ
  intro H locs ls hP hS hl
  subst hi
  have hn := hx_kd_n hk (by decide)
  have e9 : (nI q).toNatClampNeg = q := nI_clamp (by omega)
  refine va_zald hx hb hK hP k 1 (by rw [hx_at (hx_kd_lt hk (by decide)), hx_ce2 hk]) rfl (vp_in_nI hq hn) hdg ?_
  rw [e9]
  exact kk H locs ls hP hS hl
theorem wl_zast (hZ : Rl l D ad cy own cc nL d X) {k n b : Nat} {i : Int32} {x : Int32} (q : Nat) (hk : hx_kd k = (2, n, b)) (hi : i = nI q) (hq : q < n) (hz : x = 0 ∨ x = 1) (hdg : decode cc pc = .ok (.bastore, 1)) (kk : X (pc + 1) lv st (hx_u I k q x) J) : X pc lv (.int x :: .int i :: .ref (ad k) :: st) I J := by
  obtain ⟨p, e, R, s, m, args, below, meth, c, A, cells, slots, Q, hx, hb, hml, hown, hts, hK, hA, hj, hR, rfl⟩ := hZ
  intro H locs ls hP hS hl
  subst hi
  have hn := hx_kd_n hk (by decide)
  have e9 : (nI q).toNatClampNeg = q := nI_clamp (by omega)
  refine va_zast hx hb hK hP (hx_D hA hj) hS k 1 (by rw [hx_at (hx_kd_lt hk (by decide)), hx_ce2 hk]) rfl (vp_in_nI hq hn) hdg (fun H1 locs1 hP1 hD1 hS1 => ?_)
  have hz9 : vp_nar .boolean x = x := by rcases hz with rfl | rfl <;> rfl
  rw [hz9] at hP1
  rw [e9, hx_set (I' := hx_u I k q x) (J' := J) (by rw [hx_ce2 hk, hx_u_same]) (fun a ha => hx_u_ne I q x ha) (fun _ _ => rfl)] at hP1
  exact kk H1 locs1 ls hP1 hS1 hl
theorem wl_lald (hZ : Rl l D ad cy own cc nL d X) {k n b : Nat} {i : Int32} (q : Nat) (hk : hx_kd k = (3, n, b)) (hi : i = nI q) (hq : q < n) (hdg : decode cc pc = .ok (.laload, 1)) (kk : X (pc + 1) lv (.long (J k q) :: st) I J) : X pc lv (.int i :: .ref (ad k) :: st) I J := by
  obtain ⟨p, e, R, s, m, args, below, meth, c, A, cells, slots, Q, hx, hb, hml, hown, hts, hK, hA, hj, hR, rfl⟩ := hZ
  intro H locs ls hP hS hl
  subst hi
  have hn := hx_kd_n hk (by decide)
  have e9 : (nI q).toNatClampNeg = q := nI_clamp (by omega)
  refine va_lald hx hb hK hP k 2 (by rw [hx_at (hx_kd_lt hk (by decide)), hx_ce3 hk]) rfl (vp_in_nI hq hn) hdg ?_
  rw [e9]
  exact kk H locs ls hP hS hl
theorem wl_last (hZ : Rl l D ad cy own cc nL d X) {k n b : Nat} {i : Int32} {x : Int64} (q : Nat) (hk : hx_kd k = (3, n, b)) (hi : i = nI q) (hq : q < n) (hdg : decode cc pc = .ok (.lastore, 1)) (kk : X (pc + 1) lv st I (hx_uJ J k q x)) : X pc lv (.long x :: .int i :: .ref (ad k) :: st) I J := by
  obtain ⟨p, e, R, s, m, args, below, meth, c, A, cells, slots, Q, hx, hb, hml, hown, hts, hK, hA, hj, hR, rfl⟩ := hZ
  intro H locs ls hP hS hl
  subst hi
  have hn := hx_kd_n hk (by decide)
  have e9 : (nI q).toNatClampNeg = q := nI_clamp (by omega)
  refine va_last hx hb hK hP (hx_D hA hj) hS k 2 (by rw [hx_at (hx_kd_lt hk (by decide)), hx_ce3 hk]) rfl (vp_in_nI hq hn) hdg (fun H1 locs1 hP1 hD1 hS1 => ?_)
  rw [e9, hx_set (I' := I) (J' := hx_uJ J k q x) (by rw [hx_ce3 hk, hx_uJ_same]) (fun _ _ => rfl) (fun a ha => hx_uJ_ne J q x ha)] at hP1
  exact kk H1 locs1 ls hP1 hS1 hl
theorem wl_aald4 (hZ : Rl l D ad cy own cc nL d X) {k n b : Nat} {i : Int32} (q : Nat) (hk : hx_kd k = (4, n, b)) (hi : i = nI q) (hq : q < n) (hdg : decode cc pc = .ok (.aaload, 1)) (kk : X (pc + 1) lv (.ref (ad (b + q)) :: st) I J) : X pc lv (.int i :: .ref (ad k) :: st) I J := by
  obtain ⟨p, e, R, s, m, args, below, meth, c, A, cells, slots, Q, hx, hb, hml, hown, hts, hK, hA, hj, hR, rfl⟩ := hZ
  intro H locs ls hP hS hl
  subst hi
  have hn := hx_kd_n hk (by decide)
  have e9 : (nI q).toNatClampNeg = q := nI_clamp (by omega)
  have ha : (hx_w ad cy I J)[k]? = some (ad k, .inl (cy 4, n, .inr (.inr (.inr (.inr (hx_rows ad n b)))))) := (by rw [hx_at (hx_kd_lt hk (by decide)), hx_ce4 hk])
  exact W.aald (v := .ref (ad (b + q))) (ty := .array .int) hx hb (hP k _ ha) ((hK.2 3 _ rfl).1 n (fun j => va_rf (hx_rows ad n b j))) rfl (fun q => by cases q) (by show ¬ (_ < 0 ∨ (arrV _ _ _).slots.size ≤ _); rw [arrV_size]; exact vp_in_nI hq hn) (by show (arrV _ _ _).slots[_]? = _; rw [e9, arrV_read _ _ hq]; simp [va_rf, hx_rows, hq]) rfl rfl hdg (kk H locs ls hP hS hl)
theorem wl_aald5 (hZ : Rl l D ad cy own cc nL d X) {k n b : Nat} {i : Int32} (q : Nat) (hk : hx_kd k = (5, n, b)) (hi : i = nI q) (hq : q < n) (hdg : decode cc pc = .ok (.aaload, 1)) (kk : X (pc + 1) lv (.ref (ad (b + q)) :: st) I J) : X pc lv (.int i :: .ref (ad k) :: st) I J := by
  obtain ⟨p, e, R, s, m, args, below, meth, c, A, cells, slots, Q, hx, hb, hml, hown, hts, hK, hA, hj, hR, rfl⟩ := hZ
  intro H locs ls hP hS hl
  subst hi
  have hn := hx_kd_n hk (by decide)
  have e9 : (nI q).toNatClampNeg = q := nI_clamp (by omega)
  have ha : (hx_w ad cy I J)[k]? = some (ad k, .inl (cy 5, n, .inr (.inr (.inr (.inr (hx_rows ad n b)))))) := (by rw [hx_at (hx_kd_lt hk (by decide)), hx_ce5 hk])
  exact W.aald (v := .ref (ad (b + q))) (ty := .array .long) hx hb (hP k _ ha) ((hK.2 4 _ rfl).1 n (fun j => va_rf (hx_rows ad n b j))) rfl (fun q => by cases q) (by show ¬ (_ < 0 ∨ (arrV _ _ _).slots.size ≤ _); rw [arrV_size]; exact vp_in_nI hq hn) (by show (arrV _ _ _).slots[_]? = _; rw [e9, arrV_read _ _ hq]; simp [va_rf, hx_rows, hq]) rfl rfl hdg (kk H locs ls hP hS hl)
theorem wl_get (hZ : Rl l D ad cy own cc nL d X) {k ci N j idx : Nat} {C : String} {T : u_T} {fs : List Value} {v : Value} (hob : hx_ob ad I J k = (ci, fs)) (h6 : k < 6) (hc : vwCl[ci]? = some (C, T, N)) (hin : ∀ w ∈ u_ws C T N, w ∈ hx_ws) (hjN : j < N) (hlk : Cond.fieldLink own idx (T j).1 (T j).2.1 (T j).2.2.1 ∈ hx_ws) (hv : fs[j]? = some v) (hdg : decode cc pc = .ok (.getfield idx, 3)) (kk : X (pc + 3) lv (v :: st) I J) : X pc lv (.ref (ad k) :: st) I J := by
  obtain ⟨p, e, R, s, m, args, below, meth, c, A, cells, slots, Q, hx, hb, hml, hown, hts, hK, hA, hj, hR, rfl⟩ := hZ
  intro H locs ls hP hS hl
  exact va_get (D := D) (ref := (T j).1) (C := C) (T := T) (N := N) hx hb (Ts := hx_ws) hts hin hown hK hP k (by rw [hx_at (by omega)]; unfold hx_ce; rw [if_pos h6, hob]) hc j hjN (hts _ hlk) (fun _ h9 => h9) hv hdg (kk H locs ls hP hS hl)
theorem wl_put (hZ : Rl l D ad cy own cc nL d X) {k ci N j idx : Nat} {C : String} {T : u_T} {fs : List Value} {v : Value} {ty : Nat → FieldType} {I' : MI} {J' : MJ} (hob : hx_ob ad I J k = (ci, fs)) (hob' : hx_ob ad I' J' k = (ci, fs.set j v)) (h6 : k < 6) (hc : vwCl[ci]? = some (C, T, N)) (hin : ∀ w ∈ u_ws C T N, w ∈ hx_ws) (hty : ∀ k, k < N → parseFieldDescriptor (T k).2.2.1 = some (ty k)) (hnm : ∀ a, a < N → ∀ b, b < N → a ≠ b → (T a).2.1 ≠ (T b).2.1) (hjN : j < N) (hlk : Cond.fieldLink own idx (T j).1 (T j).2.1 (T j).2.2.1 ∈ hx_ws) (hfin : (T j).2.2.2 = false) (hn : narrow (ty j) v = v) (hfit : fits (ty j) v = true) (hlen : j < fs.length) (h1 : ∀ a, a ≠ k → I' a = I a) (h2 : ∀ a, a ≠ k → J' a = J a) (hdg : decode cc pc = .ok (.putfield idx, 3)) (kk : X (pc + 3) lv st I' J') : X pc lv (v :: .ref (ad k) :: st) I J := by
  obtain ⟨p, e, R, s, m, args, below, meth, c, A, cells, slots, Q, hx, hb, hml, hown, hts, hK, hA, hj, hR, rfl⟩ := hZ
  intro H locs ls hP hS hl
  refine va_put (D := D) (ref := (T j).1) (C := C) (T := T) (N := N) hx hb (Ts := hx_ws) hts hin ty hty hnm hown hK hP (hx_D hA hj) hS k (by rw [hx_at (by omega)]; unfold hx_ce; rw [if_pos h6, hob]) hc j hjN (hts _ hlk) (fun _ h9 => h9) hfin (hty j hjN) hn hfit hlen hdg (fun H1 locs1 hP1 hD1 hS1 => ?_)
  rw [hx_set (I' := I') (J' := J') (by unfold hx_ce; rw [if_pos h6, hob']) h1 h2] at hP1
  exact kk H1 locs1 ls hP1 hS1 hl
theorem hx_call {p : Program} {e : Env} {R : Room} {s : State} {m : MethodId} {args : Array Value} {below : List Frame} {meth : Method} {c : Code} {H H0 : Heap} {locs : List Loc} {cells slots : Nat} {Q : State → Prop} {ls : Array Slot} {rest st0 : List Value} {a : Array Value} {A0 free : Nat → Prop} {post : hx_PO} (hr : va_Run p l e R s m args below meth c H locs cells slots 0 0 (F0 m pc ls st0) rest (hx_Qc D ad cy post a) free) (hS : va_S A0 H0 H locs) (hA : ∀ q, q < H.size → AA ad q → A0 q) (hf : ∀ q, free q → A0 q)
    (kk : ∀ (v : Option Value) (I' : MI) (J' : MJ) (H1 : Heap) (locs1 : List Loc), post v I' J' → va_P D vwCl (hx_w ad cy I' J') H1 → va_S A0 H0 H1 locs1 → W p l e R s m args below meth c H1 locs1 cells slots Q (F0 m (pc + 3) ls (v.toList ++ rest))) : W p l e R s m args below meth c H locs cells slots Q (F0 m pc ls st0) := by
  intro T hT X
  obtain ⟨v, st₀, t, T', L, h0, X', hL, e1, e2, ⟨⟨v', I', J', hv, hp, hb⟩, hz, hk⟩, st⟩ := hr T hT X
  cases hv
  rw [h0] at hz hk
  obtain ⟨t2, a1, b1⟩ := kk v I' J' T'.heap (locs ++ L) hp (by rw [e1]; exact hb)
    ⟨Nat.le_trans hS.1 (by rw [e1]; exact hz), fun q h1 h2 => by rw [e1, hk q (Nat.lt_of_lt_of_le h1 hS.1) (fun z => h2 (hA q (Nat.lt_of_lt_of_le h1 hS.1) z))]; exact hS.2.1 q h1 h2, fun q hq => by
      rcases List.mem_append.mp hq with h | h
      · exact hS.2.2 q h
      · exact hf _ (hL q h)⟩ T' rfl X'
  exact ⟨t2, st t2 a1, b1⟩
/-- what the tables say of a method that is called on an object, of a static one: n parameters -/
def hx_MV (y : MethodName) (bytes : ByteArray) (maxL : Nat) (ret : Option FieldType) (n : Nat) : Prop := Cond.instanceMethod y ∈ hx_ws ∧ Cond.selects y.cls y y ∈ hx_ws ∧ Cond.initialized y.cls ∈ hx_ws ∧ Cond.code y bytes maxL ret ∈ hx_ws ∧ (y.cls ≠ "java/lang/invoke/MethodHandle" ∧ y.cls ≠ "java/lang/invoke/VarHandle" ∧ (parseMethodDescriptor y.desc).map (fun d => d.parameters.length) = some n) ∧ maxL ≤ 40
def hx_MS (y : MethodName) (bytes : ByteArray) (maxL : Nat) (ret : Option FieldType) (n : Nat) : Prop := Cond.static y ∈ hx_ws ∧ Cond.initialized y.cls ∈ hx_ws ∧ Cond.code y bytes maxL ret ∈ hx_ws ∧ (y.cls ≠ "java/lang/invoke/MethodHandle" ∧ y.cls ≠ "java/lang/invoke/VarHandle" ∧ (parseMethodDescriptor y.desc).map (fun d => d.parameters.length) = some n) ∧ maxL ≤ 40
theorem hx_good {y : MethodName} {bytes : ByteArray} {maxL : Nat} {ret : Option FieldType} (hc : Cond.code y bytes maxL ret ∈ hx_ws) : GoodIn hx_ws (Cond.code y bytes maxL ret :: hx_ws) := by
  intro w hw
  have h1 : w ∈ hx_ws := by
    rcases List.mem_cons.mp hw with rfl | h
    · exact hc
    · exact h
  exact ⟨h1, good_of_word (List.mem_filter.mp h1).2⟩
theorem wl_callV (hZ : Rl l D ad cy own cc nL d X) {y : MethodName} {bytes : ByteArray} {maxL n d' idx k : Nat} {ret : Option FieldType} {As rest stk : List Value} {post : hx_PO} {q : vw_C} (hM : Ct l D ad cy y bytes maxL ret d' (.ref (ad k) :: As) I J post) (mv : hx_MV y bytes maxL ret n) (hlk : Cond.methodLink own idx y ∈ hx_ws) (h6 : k < 6) (hc : vwCl[(hx_ob ad I J k).1]? = some q) (hq : q.1 = y.cls) (hn : As.length = n) (hst : stk = As.reverse ++ .ref (ad k) :: rest) (hd : d' + 1 ≤ d) (hw8 : (rest.map fun v => v.category).sum ≤ 8) (hdg : decode cc pc = .ok (.invokevirtual idx, 3)) (kk : ∀ v I' J', post v I' J' → X (pc + 3) lv (v.toList ++ rest) I' J') : X pc lv stk I J := by
  subst hst
  obtain ⟨p, e, R, s, m, args, below, meth, c, A, cells, slots, Q, hx, hb, hml, hown, hts, hK, hA, hj, hR, rfl⟩ := hZ
  intro H locs ls hP hS hl
  obtain ⟨m1, m2, m3, m4, m5, m6⟩ := mv
  obtain ⟨r1, r2, r3, r4⟩ := hR
  have he : (hx_w ad cy I J)[k]? = some (ad k, .inr ((hx_ob ad I J k).1, (hx_ob ad I J k).2)) := by rw [hx_at (by omega)]; unfold hx_ce; rw [if_pos h6]
  have cw : CallW R s args own y.cls idx y bytes maxL ret (Cond.code y bytes maxL ret :: hx_ws) (hx_rm d') 0 0 n := ⟨callB_of n hts (hx_good m4) rfl rfl rfl (hts _ m3) (hts _ hlk) m5 ⟨by show d' + 1 ≤ _; omega, by show 8 + (maxL + 11) + 64 * d' ≤ _; omega⟩, hts _ m1, hts _ m2⟩
  refine hx_call (va_runV (g := F0 m pc ls (As.reverse ++ .ref (ad k) :: rest)) ⟨hx, hb, hml, hown, hts⟩ hM cw ⟨hx_blind, ?_, fun U hU hW => ⟨rfl, by rw [hU]; exact hP, va_K.moved hW.alike hK⟩⟩ rfl hn hl.1 rfl (lv_room hw8) hdg ⟨r3, r4⟩) hS (fun q _ h => by obtain ⟨k9, h9, rfl⟩ := h; exact hA k9 h9) (fun q h => by obtain ⟨k9, h9, rfl⟩ := h; exact hA k9 h9) (fun v I' J' H1 locs1 hp hP1 hS1 => kk v I' J' hp H1 locs1 ls hP1 hS1 hl)
  have := va_recv hK hP hc he
  rw [hq] at this
  exact this
theorem wl_callS (hZ : Rl l D ad cy own cc nL d X) {y : MethodName} {bytes : ByteArray} {maxL n d' idx : Nat} {ret : Option FieldType} {As rest stk : List Value} {post : hx_PO} (hM : Ct l D ad cy y bytes maxL ret d' As I J post) (mv : hx_MS y bytes maxL ret n) (hlk : Cond.methodLink own idx y ∈ hx_ws) (hn : As.length = n) (hst : stk = As.reverse ++ rest) (hd : d' + 1 ≤ d) (hw8 : (rest.map fun v => v.category).sum ≤ 8) (hdg : decode cc pc = .ok (.invokestatic idx, 3)) (kk : ∀ v I' J', post v I' J' → X (pc + 3) lv (v.toList ++ rest) I' J') : X pc lv stk I J := by
  subst hst
  obtain ⟨p, e, R, s, m, args, below, meth, c, A, cells, slots, Q, hx, hb, hml, hown, hts, hK, hA, hj, hR, rfl⟩ := hZ
  intro H locs ls hP hS hl
  obtain ⟨m1, m3, m4, m5, m6⟩ := mv
  obtain ⟨r1, r2, r3, r4⟩ := hR
  have cw : CallB R s args own idx y bytes maxL ret (Cond.code y bytes maxL ret :: hx_ws) (hx_rm d') 0 0 n := callB_of n hts (hx_good m4) rfl rfl rfl (hts _ m3) (hts _ hlk) m5 ⟨by show d' + 1 ≤ _; omega, by show 8 + (maxL + 11) + 64 * d' ≤ _; omega⟩
  exact hx_call (va_runS (g := F0 m pc ls (As.reverse ++ rest)) ⟨hx, hb, hml, hown, hts⟩ hM ⟨cw, hts _ m1⟩ ⟨hx_blind, fun U hU hW => ⟨rfl, by rw [hU]; exact hP, va_K.moved hW.alike hK⟩⟩ rfl hn hl.1 rfl (lv_room hw8) hdg ⟨r3, r4⟩) hS (fun q _ h => by obtain ⟨k9, h9, rfl⟩ := h; exact hA k9 h9) (fun q h => by obtain ⟨k9, h9, rfl⟩ := h; exact hA k9 h9) (fun v I' J' H1 locs1 hp hP1 hS1 => kk v I' J' hp H1 locs1 ls hP1 hS1 hl)
/-- ints copied from a cell's start to another's -/
def hx_cp (I : MI) (k0 k1 n : Nat) : MI := fun a => if a = k1 then va_cpy (I k0) (I k1) 0 0 n else I a
theorem wl_copy (hZ : Rl l D ad cy own cc nL d X) {idx k0 k1 n0 n1 b0 b1 n : Nat} {z1 z2 w : Int32} (hk0 : hx_kd k0 = (1, n0, b0)) (hk1 : hx_kd k1 = (1, n1, b1)) (hw : w = nI n) (hz1 : z1 = 0) (hz2 : z2 = 0) (h0 : n ≤ n0) (h1 : n ≤ n1) (hd : 1 ≤ d) (hlk : Cond.methodLink own idx arraycopyName ∈ hx_ws) (hnat : Cond.native arraycopyName ∈ hx_ws) (hstat : Cond.static arraycopyName ∈ hx_ws) (hini : Cond.initialized "java/lang/System" ∈ hx_ws) (hdg : decode cc pc = .ok (.invokestatic idx, 3)) (kk : X (pc + 3) lv [] (hx_cp I k0 k1 n) J) : X pc lv [.int w, .int z2, .ref (ad k1), .int z1, .ref (ad k0)] I J := by
  subst hz1; subst hz2; subst hw
  obtain ⟨p, e, R, s, m, args, below, meth, c, A, cells, slots, Q, hx, hb, hml, hown, hts, hK, hA, hj, hR, rfl⟩ := hZ
  intro H locs ls hP hS hl
  obtain ⟨r1, r2, r3, r4⟩ := hR
  have hn0 := hx_kd_n hk0 (by decide)
  have e9 : (nI n).toNatClampNeg = n := nI_clamp (by omega)
  have e0 : (0 : Int32).toNatClampNeg = 0 := rfl
  refine va_copyi hx hb (hml.trans hl.1.symm) hown (hts _ hlk) (hts _ hnat) (hts _ hstat) (hts _ hini) hK hP (hx_D hA hj) hS k0 k1 0 0 (by rw [hx_at (hx_kd_lt hk0 (by decide)), hx_ce1 hk0]) (by rw [hx_at (hx_kd_lt hk1 (by decide)), hx_ce1 hk1]) rfl rfl rfl (by decide) (by decide) (nI_pos (by omega)) (by rw [e0, e9]; omega) (by rw [e0, e9]; omega) (fun _ _ => rfl) (by omega) ?_ hdg (fun H1 locs1 hP1 hD1 hS1 => ?_)
  · have : nativeFrameWords "java/lang/System" "arraycopy" 5 + 11 ≤ 64 := by decide +kernel
    simp only [List.map_nil, List.sum_nil]
    omega
  · rw [e9, e0, hx_set (I' := hx_cp I k0 k1 n) (J' := J) (by rw [hx_ce1 hk1]; unfold hx_cp; rw [if_pos rfl]) (fun a ha => if_neg ha) (fun _ _ => rfl)] at hP1
    exact kk H1 locs1 ls hP1 hS1 hl
end WLR

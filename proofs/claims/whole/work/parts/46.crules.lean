/-! the constructors: an instruction, a row -/
section WLC
variable {l : Launch} {D : va_G} {h0 : Nat} {cy : Nat → ClassId} {own : String} {cc : ByteArray} {nL d rc rs : Nat} {ini : Prop} {X : HC} {pc : Nat} {lv lv' : List (Nat × Value)} {st : List Value} {ex nw : va_W} {ks : List Nat} {I : MI} {J : MJ} {nn ce sl : Nat}
theorem wc_iconst (hZ : Rc l D h0 cy own cc nL ini d rc rs X) {n : Int} {v : Int32} (hdg : decode cc pc = .ok (.iconst n, 1)) (hv : Int32.ofInt n = v) (k : X (pc + 1) lv (.int v :: st) ex ks nw I J nn ce sl) : X pc lv (st) ex ks nw I J nn ce sl := by
  obtain ⟨p, e, R, s, m, args, below, meth, c, A, Q, hx, hb, hml, hown, hts, hK, hAO, hin, hA, hR, rfl⟩ := hZ
  intro H locs ls hP hD hz hS hl
  exact lv_iconst hx hb hdg hv (k H locs ls hP hD hz hS hl)
theorem wc_bipush (hZ : Rc l D h0 cy own cc nL ini d rc rs X) {n : Int} {v : Int32} (hdg : decode cc pc = .ok (.bipush n, 2)) (hv : (Int8.ofInt n).toInt32 = v) (k : X (pc + 2) lv (.int v :: st) ex ks nw I J nn ce sl) : X pc lv (st) ex ks nw I J nn ce sl := by
  obtain ⟨p, e, R, s, m, args, below, meth, c, A, Q, hx, hb, hml, hown, hts, hK, hAO, hin, hA, hR, rfl⟩ := hZ
  intro H locs ls hP hD hz hS hl
  exact lv_bipush hx hb hdg hv (k H locs ls hP hD hz hS hl)
theorem wc_sipush (hZ : Rc l D h0 cy own cc nL ini d rc rs X) {n : Int} {v : Int32} (hdg : decode cc pc = .ok (.sipush n, 3)) (hv : (Int16.ofInt n).toInt32 = v) (k : X (pc + 3) lv (.int v :: st) ex ks nw I J nn ce sl) : X pc lv (st) ex ks nw I J nn ce sl := by
  obtain ⟨p, e, R, s, m, args, below, meth, c, A, Q, hx, hb, hml, hown, hts, hK, hAO, hin, hA, hR, rfl⟩ := hZ
  intro H locs ls hP hD hz hS hl
  exact lv_sipush hx hb hdg hv (k H locs ls hP hD hz hS hl)
theorem wc_dup (hZ : Rc l D h0 cy own cc nL ini d rc rs X) {va : Value} (hdg : decode cc pc = .ok (.dup, 1)) (hva : va.category = 1) (k : X (pc + 1) lv (va :: va :: st) ex ks nw I J nn ce sl) : X pc lv (va :: st) ex ks nw I J nn ce sl := by
  obtain ⟨p, e, R, s, m, args, below, meth, c, A, Q, hx, hb, hml, hown, hts, hK, hAO, hin, hA, hR, rfl⟩ := hZ
  intro H locs ls hP hD hz hS hl
  exact lv_dup hx hb hdg hva (k H locs ls hP hD hz hS hl)
theorem wc_goto (hZ : Rc l D h0 cy own cc nL ini d rc rs X) {off : Int} {tgt : Nat} (hdg : decode cc pc = .ok (.goto off, 3)) (ht : (pc : Int) + off = (tgt : Int)) (k : X tgt lv st ex ks nw I J nn ce sl) : X pc lv st ex ks nw I J nn ce sl := by
  obtain ⟨p, e, R, s, m, args, below, meth, c, A, Q, hx, hb, hml, hown, hts, hK, hAO, hin, hA, hR, rfl⟩ := hZ
  intro H locs ls hP hD hz hS hl
  exact lv_goto hx hb hdg ht (k H locs ls hP hD hz hS hl)
theorem wc_icmp_ge (hZ : Rc l D h0 cy own cc nL ini d rc rs X) {x y : Int32} {off : Int} {tgt : Nat} (hdg : decode cc pc = .ok (.if_icmp .ge off, 3)) (ht : (pc : Int) + off = (tgt : Int)) (kt : y ≤ x → X tgt lv st ex ks nw I J nn ce sl) (kf : ¬ y ≤ x → X (pc + 3) lv st ex ks nw I J nn ce sl) : X pc lv (.int y :: .int x :: st) ex ks nw I J nn ce sl := by
  obtain ⟨p, e, R, s, m, args, below, meth, c, A, Q, hx, hb, hml, hown, hts, hK, hAO, hin, hA, hR, rfl⟩ := hZ
  intro H locs ls hP hD hz hS hl
  exact lv_icmp_ge hx hb hdg ht (fun w => kt w H locs ls hP hD hz hS hl) (fun w => kf w H locs ls hP hD hz hS hl)
theorem wc_iload_n (hZ : Rc l D h0 cy own cc nL ini d rc rs X) {k : Fin 4} {x : Int32} (j : Nat) (hg : lv[j]? = some ((k : Nat), .int x)) (hdg : decode cc pc = .ok (.iload_n k, 1)) (kk : X (pc + 1) lv (.int x :: st) ex ks nw I J nn ce sl) : X pc lv st ex ks nw I J nn ce sl := by
  obtain ⟨p, e, R, s, m, args, below, meth, c, A, Q, hx, hb, hml, hown, hts, hK, hAO, hin, hA, hR, rfl⟩ := hZ
  intro H locs ls hP hD hz hS hl
  exact lv_iload_n hx hb hdg rfl (lv_at hl j hg) (kk H locs ls hP hD hz hS hl)
theorem wc_istore_n (hZ : Rc l D h0 cy own cc nL ini d rc rs X) {k : Fin 4} {x : Int32} (hg : ((k : Nat), Value.int x) :: lv.filter (fun q => !(q.1 == (k : Nat)) && !(q.1 + 1 == (k : Nat) && q.2.category == 2)) = lv') (hn : (k : Nat) < nL) (hdg : decode cc pc = .ok (.istore_n k, 1)) (kk : X (pc + 1) lv' st ex ks nw I J nn ce sl) : X pc lv (.int x :: st) ex ks nw I J nn ce sl := by
  obtain ⟨p, e, R, s, m, args, below, meth, c, A, Q, hx, hb, hml, hown, hts, hK, hAO, hin, hA, hR, rfl⟩ := hZ
  intro H locs ls hP hD hz hS hl
  exact lv_istore_n hx hb hdg rfl hl hn hg (fun ls' hl' => kk H locs ls' hP hD hz hS hl')
theorem wc_aload_n (hZ : Rc l D h0 cy own cc nL ini d rc rs X) {k : Fin 4} {x : Nat} (j : Nat) (hg : lv[j]? = some ((k : Nat), .ref x)) (hdg : decode cc pc = .ok (.aload_n k, 1)) (kk : X (pc + 1) lv (.ref x :: st) ex ks nw I J nn ce sl) : X pc lv st ex ks nw I J nn ce sl := by
  obtain ⟨p, e, R, s, m, args, below, meth, c, A, Q, hx, hb, hml, hown, hts, hK, hAO, hin, hA, hR, rfl⟩ := hZ
  intro H locs ls hP hD hz hS hl
  exact lv_aload_n hx hb hdg rfl (lv_at hl j hg) (kk H locs ls hP hD hz hS hl)
theorem wc_astore_n (hZ : Rc l D h0 cy own cc nL ini d rc rs X) {k : Fin 4} {x : Nat} (hg : ((k : Nat), Value.ref x) :: lv.filter (fun q => !(q.1 == (k : Nat)) && !(q.1 + 1 == (k : Nat) && q.2.category == 2)) = lv') (hn : (k : Nat) < nL) (hdg : decode cc pc = .ok (.astore_n k, 1)) (kk : X (pc + 1) lv' st ex ks nw I J nn ce sl) : X pc lv (.ref x :: st) ex ks nw I J nn ce sl := by
  obtain ⟨p, e, R, s, m, args, below, meth, c, A, Q, hx, hb, hml, hown, hts, hK, hAO, hin, hA, hR, rfl⟩ := hZ
  intro H locs ls hP hD hz hS hl
  exact lv_astore_n hx hb hdg rfl hl hn hg (fun ls' hl' => kk H locs ls' hP hD hz hS hl')
theorem wc_iinc (hZ : Rc l D h0 cy own cc nL ini d rc rs X) {i : Nat} {n : Int} {x v : Int32} (j : Nat) (hg : lv[j]? = some (i, .int x)) (hv : x + Int32.ofInt n = v) (hf : (i, Value.int v) :: lv.filter (fun q => !(q.1 == i) && !(q.1 + 1 == i && q.2.category == 2)) = lv') (hn : i < nL) (hdg : decode cc pc = .ok (.iinc i n, 3)) (kk : X (pc + 3) lv' st ex ks nw I J nn ce sl) : X pc lv st ex ks nw I J nn ce sl := by
  obtain ⟨p, e, R, s, m, args, below, meth, c, A, Q, hx, hb, hml, hown, hts, hK, hAO, hin, hA, hR, rfl⟩ := hZ
  intro H locs ls hP hD hz hS hl
  exact lv_iinc hx hb hdg hl hg hv hn hf (fun ls' hl' => kk H locs ls' hP hD hz hS hl')
theorem wc_sub (hZ : Rc l D h0 cy own cc nL ini d rc rs X) (ps : List Nat) (hf : lv_pick lv ps = lv') (kk : X pc lv' st ex ks nw I J nn ce sl) : X pc lv st ex ks nw I J nn ce sl := by
  obtain ⟨p, e, R, s, m, args, below, meth, c, A, Q, hx, hb, hml, hown, hts, hK, hAO, hin, hA, hR, rfl⟩ := hZ
  intro H locs ls hP hD hz hS hl
  exact kk H locs ls hP hD hz hS (lv_sub hl ps hf)
theorem wc_obj (hZ : Rc l D h0 cy own cc nL ini d rc rs X) {idx x : Nat} (hlk : Cond.methodLink own idx Lib.objectInit ∈ hx_ws) (hi2 : Cond.instanceMethod Lib.objectInit ∈ hx_ws) (hco : Cond.code Lib.objectInit ⟨#[0xb1]⟩ 1 none ∈ hx_ws) (hw : (st.map fun v => v.category).sum ≤ 8) (hd : 1 ≤ d) (hdg : decode cc pc = .ok (.invokespecial idx, 3)) (kk : X (pc + 3) lv st ex ks nw I J nn ce sl) : X pc lv (.ref x :: st) ex ks nw I J nn ce sl := by
  obtain ⟨p, e, R, s, m, args, below, meth, c, A, Q, hx, hb, hml, hown, hts, hK, hAO, hin, hA, hR, rfl⟩ := hZ
  intro H locs ls hP hD hz hS hl
  obtain ⟨r1, r2, r3, r4⟩ := hR
  have hrm := lv_room (m := m) (pc := pc) (ls := ls) (st := st) (rest := .ref x :: st) hw
  refine W.objInit hx hb hown (hts _ hlk) (hts _ hi2) (hts _ hco) rfl (by rw [hml]; exact hl.1) rfl hdg (by omega) (by omega) ?_
  exact W.eq (g2 := F0 m (pc + 3) ls st) rfl (kk H locs ls hP hD hz hS hl)
theorem hx_cyE {D : va_G} {cy : Nat → ClassId} {s : State} (hK : va_K D vwCl (hx_ty cy) s) : s.vm.findClass ("[" ++ (FieldType.int).toString) = some (cy 1) ∧ s.vm.findClass ("[" ++ (FieldType.boolean).toString) = some (cy 2) ∧ s.vm.findClass ("[" ++ (FieldType.long).toString) = some (cy 3) ∧ s.vm.findClass ("[" ++ (FieldType.array .int).toString) = some (cy 4) ∧ s.vm.findClass ("[" ++ (FieldType.array .long).toString) = some (cy 5) :=
  ⟨(hK.2 0 _ rfl).2, (hK.2 1 _ rfl).2, (hK.2 2 _ rfl).2, (hK.2 3 _ rfl).2, (hK.2 4 _ rfl).2⟩
/-- a cell more -/
theorem w3_push {D : va_G} {A : Nat → Prop} {H H1 : Heap} {k : Nat} (hP : va_P D vwCl ((ex ++ hks h0 cy I J ks) ++ []) H) (hD : va_D A ((ex ++ hks h0 cy I J ks) ++ [])) (hk : adh h0 k = H.size) (hA : A (adh h0 k)) (ho : ∀ q, q < H.size → H1[q]? = H[q]?) (hc : va_at D vwCl (adh h0 k, hx_ce (adh h0) cy I J k) H1) :
    va_P D vwCl ((ex ++ hks h0 cy I J (ks ++ [k])) ++ []) H1 ∧ va_D A ((ex ++ hks h0 cy I J (ks ++ [k])) ++ []) := by
  rw [List.append_nil] at hP hD
  rw [List.append_nil, hks_app, ← List.append_assoc]
  refine ⟨(hP.kept (fun j q hq => ho q.1 ((hP j q hq).lt))).app (fun j q hq => ?_), hD.push hP hk hA⟩
  have h1 : j < 1 := (List.getElem?_eq_some_iff.mp hq).1
  rw [show j = 0 by omega] at hq
  cases hq
  exact hc
theorem wc_newi (hZ : Rc l D h0 cy own cc nL ini d rc rs X) {x : Int32} {k N : Nat} (hk : hx_kd k = (1, N, 0)) (ho : adh h0 k = h0 + nn) (hI : ∀ i, I k i = 0) (harr : Cond.arrayClass .int ∈ hx_ws) (hxN : x = nI N) (hN : N ≤ 3000) (hc : ce + 1 ≤ rc) (hs : sl + N ≤ rs) (hdg : decode cc pc = .ok (.newarray .int, 2)) (kk : X (pc + 2) lv (.ref (adh h0 k) :: st) ex (ks ++ [k]) [] I J (nn + 1) (ce + 1) (sl + N)) : X pc lv (.int x :: st) ex ks [] I J nn ce sl := by
  obtain ⟨p, e, R, s, m, args, below, meth, c, A, Q, hx, hb, hml, hown, hts, hK, hAO, hin, hA, hR, rfl⟩ := hZ
  intro H locs ls hP hD hz hS hl
  obtain ⟨r1, r2, r3, r4⟩ := hR
  subst hxN
  refine va_newaK hx hb (atype := .int) (hts _ harr) rfl hdg rfl (nI_pos (by omega)) (nI_clamp (by omega)) (Nat.le_trans (Nat.mul_le_mul hN (show componentBytes (newarray.typeOf .int) ≤ 8 by decide)) (by decide)) (by omega) (by omega) hz (fun H1 cA e1 z1 o1 hAr hNm => ?_)
  have ec : cA = cy 1 := Option.some.inj (hNm.symm.trans (hx_cyE hK).1)
  subst ec
  have hcell : va_at D vwCl (adh h0 k, hx_ce (adh h0) cy I J k) H1 := by
    rw [hx_ce1 hk]
    show H1[adh h0 k]? = some (vp_cell (cy 1) (N, .inl (I k)))
    rw [ho, e1]
    show some (arrV (cy 1) N _) = some (arrV (cy 1) N (fun i => .int (I k i)))
    congr 2
    funext i
    rw [hI i]
    rfl
  obtain ⟨hP1, hD1⟩ := w3_push hP hD (ho.trans hz.symm) (hA _ (by have := hS.1; omega)) (fun q hq => o1 q (by omega)) hcell
  have k1 := kk H1 locs ls hP1 hD1 (by omega) ⟨by have := hS.1; omega, fun q h1 h2 => (o1 q (by have := hS.1; omega)).trans (hS.2.1 q h1 h2), hS.2.2⟩ hl
  rw [ho] at k1
  exact k1
theorem wc_newz (hZ : Rc l D h0 cy own cc nL ini d rc rs X) {x : Int32} {k N : Nat} (hk : hx_kd k = (2, N, 0)) (ho : adh h0 k = h0 + nn) (hI : ∀ i, I k i = 0) (harr : Cond.arrayClass .boolean ∈ hx_ws) (hxN : x = nI N) (hN : N ≤ 3000) (hc : ce + 1 ≤ rc) (hs : sl + N ≤ rs) (hdg : decode cc pc = .ok (.newarray .boolean, 2)) (kk : X (pc + 2) lv (.ref (adh h0 k) :: st) ex (ks ++ [k]) [] I J (nn + 1) (ce + 1) (sl + N)) : X pc lv (.int x :: st) ex ks [] I J nn ce sl := by
  obtain ⟨p, e, R, s, m, args, below, meth, c, A, Q, hx, hb, hml, hown, hts, hK, hAO, hin, hA, hR, rfl⟩ := hZ
  intro H locs ls hP hD hz hS hl
  obtain ⟨r1, r2, r3, r4⟩ := hR
  subst hxN
  refine va_newaK hx hb (atype := .boolean) (hts _ harr) rfl hdg rfl (nI_pos (by omega)) (nI_clamp (by omega)) (Nat.le_trans (Nat.mul_le_mul hN (show componentBytes (newarray.typeOf .boolean) ≤ 8 by decide)) (by decide)) (by omega) (by omega) hz (fun H1 cA e1 z1 o1 hAr hNm => ?_)
  have ec : cA = cy 2 := Option.some.inj (hNm.symm.trans (hx_cyE hK).2.1)
  subst ec
  have hcell : va_at D vwCl (adh h0 k, hx_ce (adh h0) cy I J k) H1 := by
    rw [hx_ce2 hk]
    show H1[adh h0 k]? = some (vp_cell (cy 2) (N, .inl (I k)))
    rw [ho, e1]
    show some (arrV (cy 2) N _) = some (arrV (cy 2) N (fun i => .int (I k i)))
    congr 2
    funext i
    rw [hI i]
    rfl
  obtain ⟨hP1, hD1⟩ := w3_push hP hD (ho.trans hz.symm) (hA _ (by have := hS.1; omega)) (fun q hq => o1 q (by omega)) hcell
  have k1 := kk H1 locs ls hP1 hD1 (by omega) ⟨by have := hS.1; omega, fun q h1 h2 => (o1 q (by have := hS.1; omega)).trans (hS.2.1 q h1 h2), hS.2.2⟩ hl
  rw [ho] at k1
  exact k1
theorem wc_newl (hZ : Rc l D h0 cy own cc nL ini d rc rs X) {x : Int32} {k N : Nat} (hk : hx_kd k = (3, N, 0)) (ho : adh h0 k = h0 + nn) (hI : ∀ i, J k i = 0) (harr : Cond.arrayClass .long ∈ hx_ws) (hxN : x = nI N) (hN : N ≤ 3000) (hc : ce + 1 ≤ rc) (hs : sl + N ≤ rs) (hdg : decode cc pc = .ok (.newarray .long, 2)) (kk : X (pc + 2) lv (.ref (adh h0 k) :: st) ex (ks ++ [k]) [] I J (nn + 1) (ce + 1) (sl + N)) : X pc lv (.int x :: st) ex ks [] I J nn ce sl := by
  obtain ⟨p, e, R, s, m, args, below, meth, c, A, Q, hx, hb, hml, hown, hts, hK, hAO, hin, hA, hR, rfl⟩ := hZ
  intro H locs ls hP hD hz hS hl
  obtain ⟨r1, r2, r3, r4⟩ := hR
  subst hxN
  refine va_newaK hx hb (atype := .long) (hts _ harr) rfl hdg rfl (nI_pos (by omega)) (nI_clamp (by omega)) (Nat.le_trans (Nat.mul_le_mul hN (show componentBytes (newarray.typeOf .long) ≤ 8 by decide)) (by decide)) (by omega) (by omega) hz (fun H1 cA e1 z1 o1 hAr hNm => ?_)
  have ec : cA = cy 3 := Option.some.inj (hNm.symm.trans (hx_cyE hK).2.2.1)
  subst ec
  have hcell : va_at D vwCl (adh h0 k, hx_ce (adh h0) cy I J k) H1 := by
    rw [hx_ce3 hk]
    show H1[adh h0 k]? = some (vp_cell (cy 3) (N, .inr (.inl (J k))))
    rw [ho, e1]
    show some (arrV (cy 3) N _) = some (arrV (cy 3) N (fun i => .long (J k i)))
    congr 2
    funext i
    rw [hI i]
    rfl
  obtain ⟨hP1, hD1⟩ := w3_push hP hD (ho.trans hz.symm) (hA _ (by have := hS.1; omega)) (fun q hq => o1 q (by omega)) hcell
  have k1 := kk H1 locs ls hP1 hD1 (by omega) ⟨by have := hS.1; omega, fun q h1 h2 => (o1 q (by have := hS.1; omega)).trans (hS.2.1 q h1 h2), hS.2.2⟩ hl
  rw [ho] at k1
  exact k1
end WLC

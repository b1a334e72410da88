/-! THE LAYER: the heap behind the constructors as a flat memory (ints I, longs J, by cell and place), and walks over it with the machine hidden -/
abbrev MI : Type := Nat → Nat → Int32
abbrev MJ : Type := Nat → Nat → Int64
/-- the cells: 0 .. 5 objects (DearVotes, House, Search, Rounds, Fund, Model); then (kind, length, first row): 1 ints, 2 booleans, 3 longs, 4 rows of ints, 5 rows of longs -/
def hx_kt : List (Nat × Nat × Nat) := [(0, 0, 0), (0, 0, 0), (0, 0, 0), (0, 0, 0), (0, 0, 0), (0, 0, 0), (1, 12, 0), (2, 12, 0), (4, 12, 33), (4, 12, 45), (1, 6, 0), (4, 6, 57), (4, 6, 63), (1, 7, 0), (1, 6, 0), (1, 6, 0), (5, 31, 69), (4, 12, 100), (4, 12, 112), (3, 6, 0), (1, 12, 0), (2, 12, 0), (1, 72, 0), (1, 72, 0), (1, 72, 0), (1, 144, 0), (1, 18, 0), (2, 18, 0), (1, 6, 0), (1, 6, 0), (1, 2232, 0), (3, 6, 0), (3, 6, 0)] ++ List.replicate 24 (1, 6, 0) ++ List.replicate 12 (1, 3, 0) ++ List.replicate 31 (3, 12, 0) ++ List.replicate 12 (1, 6, 0) ++ List.replicate 12 (1, 12, 0)
def hx_kd (k : Nat) : Nat × Nat × Nat := hx_kt.getD k (9, 0, 0)
/-- what an object holds -/
def hx_ob (ad : Nat → Nat) (I : MI) (J : MJ) (k : Nat) : Nat × List Value := match k with
  | 0 => (4, [.ref (ad 1), .ref (ad 2), .ref (ad 3), .ref (ad 4)])
  | 1 => (1, [.int (I 1 0), .int (I 1 1), .int (I 1 2), .ref (ad 6), .ref (ad 7), .ref (ad 8), .ref (ad 9)])
  | 2 => (3, [.ref (ad 1), .ref (ad 10), .ref (ad 11), .ref (ad 12), .ref (ad 13), .ref (ad 14), .ref (ad 15), .int (I 2 7), .int (I 2 8), .int (I 2 9)])
  | 3 => (2, [.ref (ad 1), .ref (ad 2), .ref (ad 16), .int (I 3 3), .int (I 3 4), .int (I 3 5), .int (I 3 6)])
  | 4 => (0, [.ref (ad 1), .int (I 4 1), .ref (ad 17), .ref (ad 18), .ref (ad 19)])
  | _ => (5, [.int (I 5 0), .int (I 5 1), .int (I 5 2), .int (I 5 3), .ref (ad 20), .ref (ad 21), .ref (ad 22), .ref (ad 23), .ref (ad 24), .ref (ad 25), .int (I 5 10), .int (I 5 11), .int (I 5 12), .int (I 5 13), .ref (ad 26), .ref (ad 27), .ref (ad 28), .ref (ad 29), .int (I 5 18), .int (I 5 19), .int (I 5 20), .ref (ad 30), .ref (ad 31), .ref (ad 32), .long (J 5 24)])
def hx_rows (ad : Nat → Nat) (n b : Nat) : Nat → Option Nat := fun i => if i < n then some (ad (b + i)) else none
/-- what an array holds -/
def hx_ar (ad : Nat → Nat) (cy : Nat → ClassId) (I : MI) (J : MJ) (k : Nat) : ClassId × vp_A := match (hx_kd k).1 with
  | 1 => (cy 1, (hx_kd k).2.1, .inl (I k))
  | 2 => (cy 2, (hx_kd k).2.1, .inl (I k))
  | 3 => (cy 3, (hx_kd k).2.1, .inr (.inl (J k)))
  | 4 => (cy 4, (hx_kd k).2.1, .inr (.inr (.inr (.inr (hx_rows ad (hx_kd k).2.1 (hx_kd k).2.2)))))
  | _ => (cy 5, (hx_kd k).2.1, .inr (.inr (.inr (.inr (hx_rows ad (hx_kd k).2.1 (hx_kd k).2.2)))))
def hx_ce (ad : Nat → Nat) (cy : Nat → ClassId) (I : MI) (J : MJ) (k : Nat) : va_E := if k < 6 then .inr (hx_ob ad I J k) else .inl (hx_ar ad cy I J k)
def hx_w (ad : Nat → Nat) (cy : Nat → ClassId) (I : MI) (J : MJ) : va_W := (List.range 124).map (fun k => (ad k, hx_ce ad cy I J k))
def hx_ty (cy : Nat → ClassId) : List (ClassId × FieldType) := [(cy 1, .int), (cy 2, .boolean), (cy 3, .long), (cy 4, .array .int), (cy 5, .array .long)]
/-- a place written -/
def hx_u (I : MI) (k i : Nat) (x : Int32) : MI := fun a => if a = k then upd (I k) i x else I a
def hx_uJ (J : MJ) (k i : Nat) (x : Int64) : MJ := fun a => if a = k then vp_updL (J k) i x else J a
theorem hx_u_same (I : MI) (k i : Nat) (x : Int32) : hx_u I k i x k = upd (I k) i x := if_pos rfl
theorem hx_u_ne (I : MI) {k a : Nat} (i : Nat) (x : Int32) (h : a ≠ k) : hx_u I k i x a = I a := if_neg h
theorem hx_uJ_same (J : MJ) (k i : Nat) (x : Int64) : hx_uJ J k i x k = vp_updL (J k) i x := if_pos rfl
theorem hx_uJ_ne (J : MJ) {k a : Nat} (i : Nat) (x : Int64) (h : a ≠ k) : hx_uJ J k i x a = J a := if_neg h
theorem hx_at {ad : Nat → Nat} {cy : Nat → ClassId} {I : MI} {J : MJ} {k : Nat} (h : k < 124) : (hx_w ad cy I J)[k]? = some (ad k, hx_ce ad cy I J k) := by
  unfold hx_w
  rw [List.getElem?_map, List.getElem?_range h]
  rfl
theorem hx_len {ad : Nat → Nat} {cy : Nat → ClassId} {I : MI} {J : MJ} : (hx_w ad cy I J).length = 124 := by
  unfold hx_w
  rw [List.length_map, List.length_range]
theorem hx_kd_lt {k a n b : Nat} (h : hx_kd k = (a, n, b)) (ha : a ≠ 9) : k < 124 := by
  rcases Nat.lt_or_ge k 124 with q | q
  · exact q
  · exfalso
    have e : hx_kd k = (9, 0, 0) := by
      unfold hx_kd
      rw [List.getD_eq_getElem?_getD, List.getElem?_eq_none (by show hx_kt.length ≤ k; exact Nat.le_trans (by decide +kernel) q)]
      rfl
    rw [e] at h
    cases h
    exact ha rfl
theorem hx_kd_ge {k a n b : Nat} (h : hx_kd k = (a, n, b)) (ha : a ≠ 0) : ¬ k < 6 := by
  intro q
  have e : ∀ j, j < 6 → (hx_kd j).1 = 0 := by decide +kernel
  have := e k q
  rw [h] at this
  exact ha this
theorem hx_ce1 {ad : Nat → Nat} {cy : Nat → ClassId} {I : MI} {J : MJ} {k n b : Nat} (h : hx_kd k = (1, n, b)) : hx_ce ad cy I J k = .inl (cy 1, n, .inl (I k)) := by
  unfold hx_ce hx_ar
  rw [if_neg (hx_kd_ge h (by decide)), h]
  rfl
theorem hx_ce2 {ad : Nat → Nat} {cy : Nat → ClassId} {I : MI} {J : MJ} {k n b : Nat} (h : hx_kd k = (2, n, b)) : hx_ce ad cy I J k = .inl (cy 2, n, .inl (I k)) := by
  unfold hx_ce hx_ar
  rw [if_neg (hx_kd_ge h (by decide)), h]
  rfl
theorem hx_ce3 {ad : Nat → Nat} {cy : Nat → ClassId} {I : MI} {J : MJ} {k n b : Nat} (h : hx_kd k = (3, n, b)) : hx_ce ad cy I J k = .inl (cy 3, n, .inr (.inl (J k))) := by
  unfold hx_ce hx_ar
  rw [if_neg (hx_kd_ge h (by decide)), h]
  rfl
theorem hx_ce4 {ad : Nat → Nat} {cy : Nat → ClassId} {I : MI} {J : MJ} {k n b : Nat} (h : hx_kd k = (4, n, b)) : hx_ce ad cy I J k = .inl (cy 4, n, .inr (.inr (.inr (.inr (hx_rows ad n b))))) := by
  unfold hx_ce hx_ar
  rw [if_neg (hx_kd_ge h (by decide)), h]
  rfl
theorem hx_ce5 {ad : Nat → Nat} {cy : Nat → ClassId} {I : MI} {J : MJ} {k n b : Nat} (h : hx_kd k = (5, n, b)) : hx_ce ad cy I J k = .inl (cy 5, n, .inr (.inr (.inr (.inr (hx_rows ad n b))))) := by
  unfold hx_ce hx_ar
  rw [if_neg (hx_kd_ge h (by decide)), h]
  rfl
/-- a cell reads its own ints and longs alone -/
theorem hx_ob_eq {ad : Nat → Nat} {I I' : MI} {J J' : MJ} {k : Nat} (h6 : k < 6) (h1 : I' k = I k) (h2 : J' k = J k) : hx_ob ad I' J' k = hx_ob ad I J k := by
  match k, h6 with
  | 0, _ => rfl
  | 1, _ => show (1, _) = (1, _); rw [h1]
  | 2, _ => show (3, _) = (3, _); rw [h1]
  | 3, _ => show (2, _) = (2, _); rw [h1]
  | 4, _ => show (0, _) = (0, _); rw [h1]
  | 5, _ => show (5, _) = (5, _); rw [h1, h2]
  | k + 6, h => omega
theorem hx_ce_eq {ad : Nat → Nat} {cy : Nat → ClassId} {I I' : MI} {J J' : MJ} {k : Nat} (h1 : I' k = I k) (h2 : J' k = J k) : hx_ce ad cy I' J' k = hx_ce ad cy I J k := by
  unfold hx_ce
  by_cases h : k < 6
  · rw [if_pos h, if_pos h, hx_ob_eq h h1 h2]
  · rw [if_neg h, if_neg h]
    unfold hx_ar
    rw [h1, h2]
theorem hx_set {ad : Nat → Nat} {cy : Nat → ClassId} {I I' : MI} {J J' : MJ} {k : Nat} {x : va_E} (hx : hx_ce ad cy I' J' k = x) (h1 : ∀ a, a ≠ k → I' a = I a) (h2 : ∀ a, a ≠ k → J' a = J a) : (hx_w ad cy I J).set k (ad k, x) = hx_w ad cy I' J' := by
  subst hx
  apply List.ext_getElem?
  intro j
  rw [List.getElem?_set]
  by_cases hj : j < 124
  · rw [hx_at hj, hx_at hj]
    by_cases e : k = j
    · subst e
      rw [if_pos rfl, hx_len, if_pos hj]
    · rw [if_neg e, hx_ce_eq (h1 j (fun q => e q.symm)) (h2 j (fun q => e q.symm))]
  · rw [List.getElem?_eq_none (by rw [hx_len]; omega), List.getElem?_eq_none (by rw [hx_len]; omega), hx_len]
    by_cases e : k = j
    · rw [if_pos e, if_neg (by omega)]
    · rw [if_neg e]
theorem hx_D {A : Nat → Prop} {ad : Nat → Nat} {cy : Nat → ClassId} {I : MI} {J : MJ} (hA : ∀ k, k < 124 → A (ad k)) (hi : ∀ i j, i < 124 → j < 124 → ad i = ad j → i = j) : va_D A (hx_w ad cy I J) := by
  have lt : ∀ (k : Nat) (q : Nat × va_E), (hx_w ad cy I J)[k]? = some q → k < 124 ∧ q.1 = ad k := fun k q h => by
    have hk : k < 124 := by have := (List.getElem?_eq_some_iff.mp h).1; rw [hx_len] at this; exact this
    rw [hx_at hk] at h
    cases h
    exact ⟨hk, rfl⟩
  refine ⟨fun i j p q h1 h2 e => ?_, fun k q h => ?_⟩
  · obtain ⟨a1, a2⟩ := lt i p h1
    obtain ⟨b1, b2⟩ := lt j q h2
    exact hi i j a1 b1 (by rw [← a2, ← b2]; exact e)
  · obtain ⟨a1, a2⟩ := lt k q h
    rw [a2]
    exact hA k a1
/-- the addresses of the cells -/
def AA (ad : Nat → Nat) : Nat → Prop := fun q => ∃ k, k < 124 ∧ q = ad k
def hx_inj (ad : Nat → Nat) : Prop := ∀ i j, i < 124 → j < 124 → ad i = ad j → i = j
abbrev HX : Type := Nat → List (Nat × Value) → List Value → MI → MJ → Prop
abbrev hx_PO : Type := Option Value → MI → MJ → Prop
def hx_X (p : Program) (l : Launch) (e : Env) (R : Room) (s : State) (m : MethodId) (args : Array Value) (below : List Frame) (meth : Method) (c : Code) (D : va_G) (ad : Nat → Nat) (cy : Nat → ClassId) (A : Nat → Prop) (nL cells slots : Nat) (Q : State → Prop) : HX := fun pc lv st I J => ∀ (H : Heap) (locs : List Loc) (ls : Array Slot), va_P D vwCl (hx_w ad cy I J) H → va_S A s.heap H locs → lv_has ls nL lv → W p l e R s m args below meth c H locs cells slots Q (F0 m pc ls st)
/-- X is a walk in a method's body: the method of class own with the code cc, nL locals, room for d more frames -/
def Rl (l : Launch) (D : va_G) (ad : Nat → Nat) (cy : Nat → ClassId) (own : String) (cc : ByteArray) (nL d : Nat) (X : HX) : Prop :=
  ∃ (p : Program) (e : Env) (R : Room) (s : State) (m : MethodId) (args : Array Value) (below : List Frame) (meth : Method) (c : Code) (A : Nat → Prop) (cells slots : Nat) (Q : State → Prop),
    p.tables.exec = Jvm.exec ∧ c.code = cc ∧ c.maxLocals = nL ∧ s.vm.findClass own = some m.cls ∧ (∀ w ∈ hx_ws, w.before args s = true) ∧ va_K D vwCl (hx_ty cy) s ∧ (∀ k, k < 124 → A (ad k)) ∧ hx_inj ad ∧ (d ≤ R.frames ∧ 64 * d ≤ R.locals ∧ cells ≤ R.cells ∧ slots ≤ R.slots) ∧ X = hx_X p l e R s m args below meth c D ad cy A nL cells slots Q
/-- the method's ends -/
def Rt (cc : ByteArray) (ret : Option FieldType) (post : hx_PO) (X : HX) : Prop :=
  (ret = none → ∀ pc lv I J, decode cc pc = .ok (.return_, 1) → post none I J → X pc lv [] I J) ∧
  (ret = some .int → ∀ pc lv I J v, decode cc pc = .ok (.ireturn, 1) → post (some (.int v)) I J → X pc lv [.int v] I J) ∧
  (ret = some .boolean → ∀ pc lv I J v, decode cc pc = .ok (.ireturn, 1) → (v = 0 ∨ v = 1) → post (some (.int v)) I J → X pc lv [.int v] I J) ∧
  (ret = some .long → ∀ pc lv I J v, decode cc pc = .ok (.lreturn, 1) → post (some (.long v)) I J → X pc lv [.long v] I J)
def hx_rm (d : Nat) : Room := { frames := d, cells := 0, slots := 0, locals := 64 * d }
def hx_Pc (D : va_G) (ad : Nat → Nat) (cy : Nat → ClassId) (as : List Value) (I : MI) (J : MJ) : Array Value → State → Prop := va_Pc as (fun U => va_P D vwCl (hx_w ad cy I J) U.heap ∧ va_K D vwCl (hx_ty cy) U)
def hx_Qc (D : va_G) (ad : Nat → Nat) (cy : Nat → ClassId) (post : hx_PO) : Array Value → State → Outcome → State → Prop := fun _ st oc t => (∃ (v : Option Value) (I : MI) (J : MJ), oc = .returned v ∧ post v I J ∧ va_P D vwCl (hx_w ad cy I J) t.heap) ∧ va_F (AA ad) st t
/-- a method's contract: with these arguments, over this memory, it ends, and post holds of its answer and the memory then -/
def Ct (l : Launch) (D : va_G) (ad : Nat → Nat) (cy : Nat → ClassId) (y : MethodName) (cc : ByteArray) (nL : Nat) (ret : Option FieldType) (d : Nat) (as : List Value) (I : MI) (J : MJ) (post : hx_PO) : Prop :=
  Met l y (Cond.code y cc nL ret :: hx_ws) (hx_rm d) (hx_Pc D ad cy as I J) (hx_Qc D ad cy post) 0 0 (AA ad)
theorem hx_blind {D : va_G} {ad : Nat → Nat} {cy : Nat → ClassId} {as : List Value} {I : MI} {J : MJ} : FrameBlind (hx_Pc D ad cy as I J) := fun a U g mk q => by
  obtain ⟨q0, qP, qK⟩ := q
  exact ⟨q0, qP, va_K.moved (u := U) (U := U.calling g mk a) (Vm.Alike.refl U.vm) qK⟩
theorem ct_start {l : Launch} {D : va_G} {ad : Nat → Nat} {cy : Nat → ClassId} (hi : hx_inj ad) {y : MethodName} {cc : ByteArray} {nL : Nat} {ret : Option FieldType} {d : Nat} {as : List Value} {I : MI} {J : MJ} {post : hx_PO} (hy : plainName y.cls = true) (hn : (lg_sl as).length ≤ nL)
    (body : ∀ X : HX, Rl l D ad cy y.cls cc nL d X → Rt cc ret post X → X 0 (lv_args 0 as) [] I J) : Ct l D ad cy y cc nL ret d as I J post := by
  refine Met.ofW (cc := cc) (maxL := nL) (ret := ret) hy rfl ?_
  intro p e s m args below meth c s₁ B hml hv
  obtain ⟨rfl, hP, hK⟩ := hv
  have hx := B.exec
  have hb := B.bytes
  have hr := B.returns
  have hts := atoms_spec (ws := Cond.code y cc nL ret :: hx_ws) B.pre
  have hown : s.vm.findClass y.cls = some m.cls := findClass_of_methodNamed B.named
  have hlocks := B.notSynchronized
  have hl := lv_entry as (n := nL) hn
  rw [lg_entry_eq]
  have hAA : ∀ k, k < 124 → AA ad (ad k) := fun k h => ⟨k, h, rfl⟩
  refine body (hx_X p l e (headSpec (Cond.code y cc nL ret :: hx_ws) (hx_rm d)).room s m as.toArray below meth c D ad cy (AA ad) nL 0 0 (MQ below (hx_Qc D ad cy post) as.toArray s 0 0 (AA ad))) ?_ ?_ s.heap [] _ hP va_S.rf hl
  · exact ⟨p, e, _, s, m, _, below, meth, c, _, _, _, _, hx, hb, hml, hown, fun w hw => hts w (List.mem_cons_of_mem _ hw), hK, hAA, hi, ⟨Nat.le_refl _, Nat.le_refl _, Nat.zero_le _, Nat.zero_le _⟩, rfl⟩
  · refine ⟨fun hret pc lv I' J' hd hp H locs ls hP' hS hl' => ?_, fun hret pc lv I' J' v hd hp H locs ls hP' hS hl' => ?_, fun hret pc lv I' J' v hd hv hp H locs ls hP' hS hl' => ?_, fun hret pc lv I' J' v hd hp H locs ls hP' hS hl' => ?_⟩
    · exact W.vret hx hb (hr.trans hret) (fun t ht hW => ⟨⟨none, I', J', rfl, hp, by rw [ht]; exact hP'⟩, hS.F ht⟩) hS.2.2 hd hlocks
    · exact W.iret hx hb (hr.trans hret) (fun t ht hW => ⟨⟨_, I', J', rfl, hp, by rw [ht]; exact hP'⟩, hS.F ht⟩) hS.2.2 hd hlocks
    · exact W.zret hx hb (hr.trans hret) (by rcases hv with rfl | rfl <;> rfl) (fun t ht hW => ⟨⟨_, I', J', rfl, hp, by rw [ht]; exact hP'⟩, hS.F ht⟩) hS.2.2 hd hlocks
    · exact W.lret hx hb (hr.trans hret) (fun t ht hW => ⟨⟨_, I', J', rfl, hp, by rw [ht]; exact hP'⟩, hS.F ht⟩) hS.2.2 hd hlocks
theorem Ct.weaken {l : Launch} {D : va_G} {ad : Nat → Nat} {cy : Nat → ClassId} {y : MethodName} {cc : ByteArray} {nL : Nat} {ret : Option FieldType} {d : Nat} {as : List Value} {I : MI} {J : MJ} {post post' : hx_PO} (h : Ct l D ad cy y cc nL ret d as I J post) (k : ∀ v I' J', post v I' J' → post' v I' J') : Ct l D ad cy y cc nL ret d as I J post' := by
  intro p e a1 a2 a3 s m args below a4 a5 a6 a7
  obtain ⟨t, o, b1, b2, b3, ⟨⟨v, I', J', e1, e2, e3⟩, f⟩, g⟩ := h p e a1 a2 a3 s m args below a4 a5 a6 a7
  exact ⟨t, o, b1, b2, b3, ⟨⟨v, I', J', e1, k v I' J' e2, e3⟩, f⟩, g⟩

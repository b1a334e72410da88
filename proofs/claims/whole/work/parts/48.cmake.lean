/-! a constructor's contract -/
def Af (h0 k0 n0 : Nat) : Nat → Prop := fun q => q = adh h0 k0 ∨ h0 + n0 ≤ q
def Cc_P (D : va_G) (h0 : Nat) (cy : Nat → ClassId) (as : List Value) (k0 ci : Nat) (fs0 : List Value) (n0 : Nat) : Array Value → State → Prop := va_Pc (.ref (adh h0 k0) :: as) (fun U => U.heap.size = h0 + n0 ∧ va_P D vwCl [(adh h0 k0, .inr (ci, fs0))] U.heap ∧ va_K D vwCl (hx_ty cy) U ∧ aoV U)
def Cc_Q (D : va_G) (h0 : Nat) (cy : Nat → ClassId) (k0 n0 n1 : Nat) (ks' : List Nat) (I : MI) (J : MJ) : Array Value → State → Outcome → State → Prop := fun _ st oc t => (oc = .returned none ∧ t.heap.size = h0 + n1 ∧ va_P D vwCl (hks h0 cy I J ks') t.heap) ∧ va_F (Af h0 k0 n0) st t
def Cc_r (d mc ms : Nat) : Room := { frames := d, cells := mc, slots := ms, locals := 64 * d }
/-- y makes, of the object k0 with fields fs0 after n0 cells, the cells ks' of the memory I, J: n1 cells then -/
def Cc (l : Launch) (D : va_G) (h0 : Nat) (cy : Nat → ClassId) (y : MethodName) (cc : ByteArray) (nL d mc ms : Nat) (as : List Value) (k0 ci : Nat) (fs0 : List Value) (n0 n1 : Nat) (ks' : List Nat) (I : MI) (J : MJ) : Prop :=
  Met l y (Cond.code y cc nL none :: hx_ws) (Cc_r d mc ms) (Cc_P D h0 cy as k0 ci fs0 n0) (Cc_Q D h0 cy k0 n0 n1 ks' I J) mc ms (Af h0 k0 n0)
theorem Cc_blind {D : va_G} {h0 : Nat} {cy : Nat → ClassId} {as : List Value} {k0 ci : Nat} {fs0 : List Value} {n0 : Nat} : FrameBlind (Cc_P D h0 cy as k0 ci fs0 n0) := fun a U g mk q => by
  obtain ⟨q0, q1, q2, q3, q4⟩ := q
  exact ⟨q0, q1, q2, va_K.moved (u := U) (U := U.calling g mk a) (Vm.Alike.refl U.vm) q3, aoV.calling q4 rfl⟩
/-- the constructor's end -/
def Ec (D : va_G) (h0 : Nat) (cy : Nat → ClassId) (cc : ByteArray) (mc ms k0 n1 : Nat) (ks' : List Nat) (I : MI) (J : MJ) (X : HC) : Prop :=
  ∀ (pc : Nat) (lv : List (Nat × Value)) (ex : va_W) (ks : List Nat) (I1 : MI) (J1 : MJ) (ce sl : Nat), decode cc pc = .ok (.return_, 1) → ce ≤ mc → sl ≤ ms → (∀ H, va_P D vwCl ((ex ++ hks h0 cy I1 J1 ks) ++ []) H → va_P D vwCl (hks h0 cy I J ks') H) → X pc lv [] ex ks [] I1 J1 n1 ce sl
theorem cc_start {l : Launch} {D : va_G} {h0 : Nat} {cy : Nat → ClassId} {y : MethodName} {cc : ByteArray} {nL d mc ms : Nat} {as : List Value} {k0 ci : Nat} {fs0 : List Value} {n0 n1 : Nat} {ks' : List Nat} {I : MI} {J : MJ} (I0 : MI) (J0 : MJ) (hy : plainName y.cls = true) (hyn : y.name = "<init>") (hn : (lg_sl (.ref (adh h0 k0) :: as)).length ≤ nL)
    (body : ∀ X : HC, Rc l D h0 cy y.cls cc nL True d mc ms X → Ec D h0 cy cc mc ms k0 n1 ks' I J X → X 0 (lv_args 0 (.ref (adh h0 k0) :: as)) [] [(adh h0 k0, .inr (ci, fs0))] [] [] I0 J0 n0 0 0) : Cc l D h0 cy y cc nL d mc ms as k0 ci fs0 n0 n1 ks' I J := by
  refine Met.ofW (cc := cc) (maxL := nL) (ret := none) hy rfl ?_
  intro p e s m args below meth c s₁ B hml hv
  obtain ⟨rfl, hz, hP, hK, hAO⟩ := hv
  have hx := B.exec
  have hb := B.bytes
  have hr := B.returns
  have hts := atoms_spec (ws := Cond.code y cc nL none :: hx_ws) B.pre
  have hown : s.vm.findClass y.cls = some m.cls := findClass_of_methodNamed B.named
  have hin : meth.name = "<init>" := (name_of_methodNamed B.named B.method).1.trans hyn
  have hlocks := B.notSynchronized
  have hl := lv_entry (.ref (adh h0 k0) :: as) (n := nL) hn
  rw [lg_entry_eq]
  have hA : ∀ q, s.heap.size ≤ q → Af h0 k0 n0 q := fun q hq => Or.inr (by omega)
  have hD : va_D (Af h0 k0 n0) (([(adh h0 k0, (.inr (ci, fs0) : va_E))] ++ hks h0 cy I0 J0 []) ++ []) := by
    refine ⟨fun i j x y hi hj _ => ?_, fun k x hx => ?_⟩
    · have a1 : i < 1 := (List.getElem?_eq_some_iff.mp hi).1
      have a2 : j < 1 := (List.getElem?_eq_some_iff.mp hj).1
      omega
    · have a1 : k < 1 := (List.getElem?_eq_some_iff.mp hx).1
      rw [show k = 0 by omega] at hx
      cases hx
      exact Or.inl rfl
  refine body (hx_C p l e (headSpec (Cond.code y cc nL none :: hx_ws) (Cc_r d mc ms)).room s m (Value.ref (adh h0 k0) :: as).toArray below meth c D h0 cy (Af h0 k0 n0) nL (MQ below (Cc_Q D h0 cy k0 n0 n1 ks' I J) (Value.ref (adh h0 k0) :: as).toArray s mc ms (Af h0 k0 n0))) ?_ ?_ s.heap [] _ hP hD hz va_S.rf hl
  · exact ⟨p, e, _, s, m, _, below, meth, c, _, _, hx, hb, hml, hown, fun w hw => hts w (List.mem_cons_of_mem _ hw), hK, hAO, fun _ => hin, hA, ⟨Nat.le_refl _, Nat.le_refl _, Nat.le_refl _, Nat.le_refl _⟩, rfl⟩
  · intro pc lv ex ks I1 J1 ce sl hd hce hsl hcv H locs ls hP' hD' hz' hS hl'
    refine W.widen (k := mc) (n := ms) hce hsl ?_
    exact W.vret hx hb hr (fun t ht hW => ⟨⟨rfl, by rw [ht]; exact hz', by rw [ht]; exact hcv H hP'⟩, hS.F ht⟩) hS.2.2 hd hlocks
section WLE
variable {l : Launch} {D : va_G} {h0 : Nat} {cy : Nat → ClassId} {own : String} {cc : ByteArray} {nL d rc rs : Nat} {ini : Prop} {X : HC} {pc : Nat} {lv lv' : List (Nat × Value)} {st : List Value} {ex nw : va_W} {ks : List Nat} {I : MI} {J : MJ} {nn ce sl : Nat}
theorem hks_in {i : Nat} {q : Nat × va_E} (h : (hks h0 cy I J ks)[i]? = some q) : ∃ k, ks[i]? = some k ∧ q = (adh h0 k, hx_ce (adh h0) cy I J k) := by
  unfold hks at h
  rw [List.getElem?_map] at h
  cases hk : ks[i]? with
  | none => rw [hk] at h; cases h
  | some k => rw [hk] at h; cases h; exact ⟨k, rfl, rfl⟩
theorem cc_call {p : Program} {e : Env} {R : Room} {s : State} {m : MethodId} {args : Array Value} {below : List Frame} {meth : Method} {c : Code} {H : Heap} {locs : List Loc} {Q : State → Prop} {ls : Array Slot} {rest st0 : List Value} {a : Array Value} {A : Nat → Prop} {mc ms k0 ci n1 : Nat} {fs0 : List Value} {ks' : List Nat} (hr : va_Run p l e R s m args below meth c H locs ce sl mc ms (F0 m pc ls st0) rest (Cc_Q D h0 cy k0 nn n1 ks' I J a) (Af h0 k0 nn))
    (hP : va_P D vwCl ((ex ++ hks h0 cy I J ks) ++ [(adh h0 k0, .inr (ci, fs0))]) H) (hD : va_D A ((ex ++ hks h0 cy I J ks) ++ [(adh h0 k0, .inr (ci, fs0))])) (hz : H.size = h0 + nn) (hS : va_S A s.heap H locs) (hA : ∀ q, s.heap.size ≤ q → A q) (h124 : ∀ k ∈ ks', k < 124) (hnd : ks'.Nodup) (hap : ∀ k ∈ ks', k = k0 ∨ nn ≤ hx_of.getD k 0)
    (kk : ∀ (H1 : Heap) (locs1 : List Loc), va_P D vwCl ((ex ++ hks h0 cy I J (ks ++ ks')) ++ []) H1 → va_D A ((ex ++ hks h0 cy I J (ks ++ ks')) ++ []) → H1.size = h0 + n1 → va_S A s.heap H1 locs1 → W p l e R s m args below meth c H1 locs1 (ce + mc) (sl + ms) Q (F0 m (pc + 3) ls rest)) : W p l e R s m args below meth c H locs ce sl Q (F0 m pc ls st0) := by
  intro T hT X
  obtain ⟨v, st₀, t, T', L, h9, X', hL, e1, e2, ⟨⟨hv, hz1, hp1⟩, hz2, hk⟩, st⟩ := hr T hT X
  cases hv
  rw [h9] at hz2 hk
  rw [← e1] at hz1 hp1 hz2 hk
  have hAk : A (adh h0 k0) := hD.2 (ex ++ hks h0 cy I J ks).length _ (by rw [List.getElem?_append_right (Nat.le_refl _), Nat.sub_self]; rfl)
  have hAf : ∀ q, Af h0 k0 nn q → A q := fun q hq => by
    rcases hq with rfl | hq
    · exact hAk
    · exact hA q (by have := hS.1; omega)
  have hold : ∀ (j : Nat) (q : Nat × va_E), (ex ++ hks h0 cy I J ks)[j]? = some q → q.1 < H.size ∧ q.1 ≠ adh h0 k0 := fun j q hq => by
    have hjl := (List.getElem?_eq_some_iff.mp hq).1
    have hq2 : ((ex ++ hks h0 cy I J ks) ++ [(adh h0 k0, (.inr (ci, fs0) : va_E))])[j]? = some q := by rw [List.getElem?_append_left hjl]; exact hq
    refine ⟨(hP j q hq2).lt, fun e => ?_⟩
    have := hD.1 j (ex ++ hks h0 cy I J ks).length q _ hq2 (by rw [List.getElem?_append_right (Nat.le_refl _), Nat.sub_self]; rfl) e
    omega
  have hnew : ∀ (j : Nat) (q : Nat × va_E), (hks h0 cy I J ks')[j]? = some q → ∃ k, ks'[j]? = some k ∧ k < 124 ∧ q.1 = adh h0 k ∧ (q.1 = adh h0 k0 ∨ h0 + nn ≤ q.1) := fun j q hq => by
    obtain ⟨k, hk1, rfl⟩ := hks_in hq
    have hm := List.mem_of_getElem? hk1
    refine ⟨k, hk1, h124 k hm, rfl, ?_⟩
    rcases hap k hm with rfl | h
    · exact Or.inl rfl
    · exact Or.inr (by show h0 + nn ≤ h0 + hx_of.getD k 0; omega)
  have hP1 : va_P D vwCl ((ex ++ hks h0 cy I J (ks ++ ks')) ++ []) T'.heap := by
    rw [List.append_nil, hks_app, ← List.append_assoc]
    refine va_P.app (fun j q hq => ?_) hp1
    have h := hold j q hq
    have hjl := (List.getElem?_eq_some_iff.mp hq).1
    exact (hP j q (by rw [List.getElem?_append_left hjl]; exact hq)).kept (hk q.1 h.1 (fun z => by
      rcases z with z | z
      · exact h.2 z
      · omega))
  have hD1 : va_D A ((ex ++ hks h0 cy I J (ks ++ ks')) ++ []) := by
    rw [List.append_nil, hks_app, ← List.append_assoc]
    refine ⟨fun i j x y hi hj hxy => ?_, fun k x hx => ?_⟩
    · by_cases c1 : i < (ex ++ hks h0 cy I J ks).length <;> by_cases c2 : j < (ex ++ hks h0 cy I J ks).length
      · rw [List.getElem?_append_left c1] at hi
        rw [List.getElem?_append_left c2] at hj
        exact hD.1 i j x y (by rw [List.getElem?_append_left c1]; exact hi) (by rw [List.getElem?_append_left c2]; exact hj) hxy
      · rw [List.getElem?_append_left c1] at hi
        rw [List.getElem?_append_right (by omega)] at hj
        have a1 := hold _ _ hi
        obtain ⟨k, -, -, -, a2⟩ := hnew _ _ hj
        exfalso
        rcases a2 with a2 | a2
        · exact a1.2 (hxy.trans a2)
        · omega
      · rw [List.getElem?_append_right (by omega)] at hi
        rw [List.getElem?_append_left c2] at hj
        have a1 := hold _ _ hj
        obtain ⟨k, -, -, -, a2⟩ := hnew _ _ hi
        exfalso
        rcases a2 with a2 | a2
        · exact a1.2 (hxy.symm.trans a2)
        · omega
      · rw [List.getElem?_append_right (by omega)] at hi hj
        obtain ⟨k, k1, k2, k3, -⟩ := hnew _ _ hi
        obtain ⟨k', k1', k2', k3', -⟩ := hnew _ _ hj
        have ek : k = k' := adh_inj h0 k k' k2 k2' (by rw [← k3, ← k3', hxy])
        subst ek
        have hi2 := (List.getElem?_eq_some_iff.mp k1)
        have hj2 := (List.getElem?_eq_some_iff.mp k1')
        obtain ⟨hi3, hi4⟩ := hi2
        obtain ⟨hj3, hj4⟩ := hj2
        have pw := List.pairwise_iff_getElem.mp hnd
        rcases Nat.lt_trichotomy (i - (ex ++ hks h0 cy I J ks).length) (j - (ex ++ hks h0 cy I J ks).length) with z | z | z
        · exact absurd (hi4.trans hj4.symm) (pw _ _ hi3 hj3 z)
        · omega
        · exact absurd (hj4.trans hi4.symm) (pw _ _ hj3 hi3 z)
    · by_cases c1 : k < (ex ++ hks h0 cy I J ks).length
      · rw [List.getElem?_append_left c1] at hx
        exact hD.2 k x (by rw [List.getElem?_append_left c1]; exact hx)
      · rw [List.getElem?_append_right (by omega)] at hx
        obtain ⟨k9, -, -, -, a2⟩ := hnew _ _ hx
        exact hAf _ a2
  obtain ⟨t2, a1, b1⟩ := kk T'.heap (locs ++ L) hP1 hD1 hz1 ⟨Nat.le_trans hS.1 hz2, fun q h1 h2 => by rw [hk q (Nat.lt_of_lt_of_le h1 hS.1) (fun z => h2 (hAf q z))]; exact hS.2.1 q h1 h2, fun q hq => by
      rcases List.mem_append.mp hq with h | h
      · exact hS.2.2 q h
      · exact hAf _ (hL q h)⟩ T' rfl X'
  exact ⟨t2, st t2 a1, b1⟩
theorem wc_make (hZ : Rc l D h0 cy own cc nL ini d rc rs X) {y : MethodName} {bytes : ByteArray} {maxL n d' mc ms idx k0 ci n1 : Nat} {As rest stk : List Value} {fs0 : List Value} {ks' : List Nat} (hM : Cc l D h0 cy y bytes maxL d' mc ms As k0 ci fs0 nn n1 ks' I J) (hyn : y.name = "<init>") (m1 : Cond.instanceMethod y ∈ hx_ws) (m3 : Cond.initialized y.cls ∈ hx_ws) (m4 : Cond.code y bytes maxL none ∈ hx_ws) (m5 : y.cls ≠ "java/lang/invoke/MethodHandle" ∧ y.cls ≠ "java/lang/invoke/VarHandle" ∧ (parseMethodDescriptor y.desc).map (fun d => d.parameters.length) = some n) (h40 : maxL ≤ 40) (hlk : Cond.methodLink own idx y ∈ hx_ws) (hn : As.length = n) (hst : stk = As.reverse ++ .ref (adh h0 k0) :: rest) (hd : d' + 1 ≤ d) (hw8 : (rest.map fun v => v.category).sum ≤ 8) (hc1 : ce + mc ≤ rc) (hs1 : sl + ms ≤ rs) (h124 : ∀ k ∈ ks', k < 124) (hnd : ks'.Nodup) (hap : ∀ k ∈ ks', k = k0 ∨ nn ≤ hx_of.getD k 0) (hdg : decode cc pc = .ok (.invokespecial idx, 3)) (kk : X (pc + 3) lv rest ex (ks ++ ks') [] I J n1 (ce + mc) (sl + ms)) : X pc lv stk ex ks [(adh h0 k0, .inr (ci, fs0))] I J nn ce sl := by
  subst hst
  obtain ⟨p, e, R, s, m, args, below, meth, c, A, Q, hx, hb, hml, hown, hts, hK, hAO, hin, hA, hR, rfl⟩ := hZ
  intro H locs ls hP hD hz hS hl
  obtain ⟨r1, r2, r3, r4⟩ := hR
  have hPn : va_P D vwCl [(adh h0 k0, .inr (ci, fs0))] H := fun j q hq => by
    have hj : j < 1 := (List.getElem?_eq_some_iff.mp hq).1
    rw [show j = 0 by omega] at hq
    exact hP (ex ++ hks h0 cy I J ks).length q (by rw [List.getElem?_append_right (Nat.le_refl _), Nat.sub_self]; exact hq)
  have cw : CallB R s args own idx y bytes maxL none (Cond.code y bytes maxL none :: hx_ws) (Cc_r d' mc ms) mc ms n := callB_of n hts (hx_good m4) rfl rfl rfl (hts _ m3) (hts _ hlk) m5 ⟨by show d' + 1 ≤ _; omega, by show 8 + (maxL + 11) + 64 * d' ≤ _; omega⟩
  exact cc_call (va_runI (g := F0 m pc ls (As.reverse ++ .ref (adh h0 k0) :: rest)) ⟨hx, hb, hml, hown, hts⟩ hM ⟨cw, hyn, hts _ m1⟩ ⟨Cc_blind, fun U hU hW => ⟨rfl, by rw [hU]; exact hz, by rw [hU]; exact hPn, va_K.moved hW.alike hK, aoV.warm hW hAO⟩⟩ rfl hn hl.1 rfl (lv_room hw8) hdg ⟨by omega, by omega⟩) hP hD hz hS hA h124 hnd hap (fun H1 locs1 hP1 hD1 hz1 hS1 => kk H1 locs1 ls hP1 hD1 hz1 hS1 hl)
theorem wc_makeN (hZ : Rc l D h0 cy own cc nL ini d rc rs X) {y : MethodName} {host : String} {bytes : ByteArray} {maxL n d' mc ms idx k0 ci n1 : Nat} {As rest stk : List Value} {fs0 : List Value} {ks' : List Nat} (hM : Cc l D h0 cy y bytes maxL d' mc ms As k0 ci fs0 nn n1 ks' I J) (hyn : y.name = "<init>") (m1 : Cond.instanceMethod y ∈ hx_ws) (m3 : Cond.initialized y.cls ∈ hx_ws) (m4 : Cond.code y bytes maxL none ∈ hx_ws) (m5 : y.cls ≠ "java/lang/invoke/MethodHandle" ∧ y.cls ≠ "java/lang/invoke/VarHandle" ∧ (parseMethodDescriptor y.desc).map (fun d => d.parameters.length) = some n) (h40 : maxL ≤ 40) (hlk : ∀ U, aoV U → va_Nw (.methodLinkNest own idx y host) U) (hn : As.length = n) (hst : stk = As.reverse ++ .ref (adh h0 k0) :: rest) (hd : d' + 1 ≤ d) (hw8 : (rest.map fun v => v.category).sum ≤ 8) (hc1 : ce + mc ≤ rc) (hs1 : sl + ms ≤ rs) (h124 : ∀ k ∈ ks', k < 124) (hnd : ks'.Nodup) (hap : ∀ k ∈ ks', k = k0 ∨ nn ≤ hx_of.getD k 0) (hdg : decode cc pc = .ok (.invokespecial idx, 3)) (kk : X (pc + 3) lv rest ex (ks ++ ks') [] I J n1 (ce + mc) (sl + ms)) : X pc lv stk ex ks [(adh h0 k0, .inr (ci, fs0))] I J nn ce sl := by
  subst hst
  obtain ⟨p, e, R, s, m, args, below, meth, c, A, Q, hx, hb, hml, hown, hts, hK, hAO, hin, hA, hR, rfl⟩ := hZ
  intro H locs ls hP hD hz hS hl
  obtain ⟨r1, r2, r3, r4⟩ := hR
  have hPn : va_P D vwCl [(adh h0 k0, .inr (ci, fs0))] H := fun j q hq => by
    have hj : j < 1 := (List.getElem?_eq_some_iff.mp hq).1
    rw [show j = 0 by omega] at hq
    exact hP (ex ++ hks h0 cy I J ks).length q (by rw [List.getElem?_append_right (Nat.le_refl _), Nat.sub_self]; exact hq)
  have cw : va_CN R s args own idx y host bytes maxL none (Cond.code y bytes maxL none :: hx_ws) (Cc_r d' mc ms) mc ms n := va_cnB n hts (hx_good m4) rfl rfl rfl (hlk s hAO) (hts _ m3) m5 ⟨by show d' + 1 ≤ _; omega, by show 8 + (maxL + 11) + 64 * d' ≤ _; omega⟩
  exact cc_call (va_runIN (g := F0 m pc ls (As.reverse ++ .ref (adh h0 k0) :: rest)) ⟨hx, hb, hml, hown, hts⟩ hM ⟨cw, hyn, hts _ m1⟩ ⟨Cc_blind, fun U hU hW => ⟨rfl, by rw [hU]; exact hz, by rw [hU]; exact hPn, va_K.moved hW.alike hK, aoV.warm hW hAO⟩⟩ rfl hn hl.1 rfl (lv_room hw8) hdg ⟨by omega, by omega⟩) hP hD hz hS hA h124 hnd hap (fun H1 locs1 hP1 hD1 hz1 hS1 => kk H1 locs1 ls hP1 hD1 hz1 hS1 hl)
end WLE

/-! the constructors: grids, fields, new objects, calls -/
section WLD
variable {l : Launch} {D : va_G} {h0 : Nat} {cy : Nat → ClassId} {own : String} {cc : ByteArray} {nL d rc rs : Nat} {ini : Prop} {X : HC} {pc : Nat} {lv lv' : List (Nat × Value)} {st : List Value} {ex nw : va_W} {ks : List Nat} {I : MI} {J : MJ} {nn ce sl : Nat}
theorem va_D_apps {A : Nat → Prop} {W V : va_W} {B : Nat} (hD : va_D A W) (hlt : ∀ (k : Nat) (q : Nat × va_E), W[k]? = some q → q.1 < B) (hV : ∀ (i : Nat) (q : Nat × va_E), V[i]? = some q → q.1 = B + i) (hA : ∀ q, B ≤ q → A q) : va_D A (W ++ V) := by
  refine ⟨fun i j x y hi hj hxy => ?_, fun k x hx => ?_⟩
  · by_cases h1 : i < W.length <;> by_cases h2 : j < W.length
    · rw [List.getElem?_append_left h1] at hi
      rw [List.getElem?_append_left h2] at hj
      exact hD.1 i j x y hi hj hxy
    · rw [List.getElem?_append_left h1] at hi
      rw [List.getElem?_append_right (by omega)] at hj
      have := hlt _ _ hi
      have := hV _ _ hj
      omega
    · rw [List.getElem?_append_right (by omega)] at hi
      rw [List.getElem?_append_left h2] at hj
      have := hV _ _ hi
      have := hlt _ _ hj
      omega
    · rw [List.getElem?_append_right (by omega)] at hi hj
      have := hV _ _ hi
      have := hV _ _ hj
      omega
  · by_cases h1 : k < W.length
    · rw [List.getElem?_append_left h1] at hx
      exact hD.2 k x hx
    · rw [List.getElem?_append_right (by omega)] at hx
      exact hA _ (by have := hV _ _ hx; omega)
theorem grid_at {b N i : Nat} {q : Nat × va_E} (k : Nat) (h : (hks h0 cy I J (k :: (List.range N).map (fun j => b + j)))[i]? = some q) : (i = 0 ∧ q = (adh h0 k, hx_ce (adh h0) cy I J k)) ∨ ∃ j, i = j + 1 ∧ j < N ∧ q = (adh h0 (b + j), hx_ce (adh h0) cy I J (b + j)) := by
  cases i with
  | zero =>
    refine Or.inl ⟨rfl, ?_⟩
    have : some (adh h0 k, hx_ce (adh h0) cy I J k) = some q := h
    cases this
    rfl
  | succ j =>
    refine Or.inr ⟨j, rfl, ?_⟩
    have h2 : (hks h0 cy I J ((List.range N).map (fun j => b + j)))[j]? = some q := h
    unfold hks at h2
    rw [List.getElem?_map, List.getElem?_map] at h2
    by_cases c : j < N
    · rw [List.getElem?_range c] at h2
      cases h2
      exact ⟨c, rfl⟩
    · rw [List.getElem?_eq_none (by rw [List.length_range]; omega)] at h2
      cases h2
theorem wc_grid4 (hZ : Rc l D h0 cy own cc nL ini d rc rs X) {x y : Int32} {k N b K idx : Nat} (hk : hx_kd k = (4, N, b)) (hr : ∀ j, j < N → hx_kd (b + j) = (1, K, 0)) (ho : adh h0 k = h0 + nn) (hro : ∀ j, j < N → adh h0 (b + j) = h0 + nn + 1 + j) (hI : ∀ j i, j < N → I (b + j) i = 0) (hcl : Cond.classLink own idx "[[I" ∈ hx_ws) (harr : Cond.arrayClass .int ∈ hx_ws) (hx1 : x = nI N) (hy1 : y = nI K) (hN : N ≤ 3000) (hK9 : K ≤ 3000) (hc : ce + (1 + N) ≤ rc) (hs : sl + (N + N * K) ≤ rs) (hdg : decode cc pc = .ok (.multianewarray idx 2, 4)) (kk : X (pc + 4) lv (.ref (adh h0 k) :: st) ex (ks ++ (k :: (List.range N).map (fun j => b + j))) [] I J (nn + 1 + N) (ce + 1 + N) (sl + N + N * K)) : X pc lv (.int y :: .int x :: st) ex ks [] I J nn ce sl := by
  obtain ⟨p, e, R, s, m, args, below, meth, c, A, Q, hx, hb, hml, hown, hts, hK, hAO, hin, hA, hR, rfl⟩ := hZ
  intro H locs ls hP hD hz hS hl
  obtain ⟨r1, r2, r3, r4⟩ := hR
  subst hx1; subst hy1
  have eN : (nI N).toNatClampNeg = N := nI_clamp (by omega)
  have eK : (nI K).toNatClampNeg = K := nI_clamp (by omega)
  intro T hT Xs
  have ed : "[" ++ (FieldType.array .int).toString = "[[I" := by decide +kernel
  obtain ⟨vm₁, cA, comp, -, fA, fC, hO, -, X', step⟩ := Xs.multianewarray2F (ty := .int) hx hown (by rw [ed]; exact hts _ hcl) (show (Cond.arrayOver (.array .int)).before args s = true from hAO.1) (hts _ harr) (g := F0 m pc ls (.int (nI K) :: .int (nI N) :: st)) rfl (by rw [hb]; exact hdg) rfl (nI_pos (by omega)) (nI_pos (by omega)) (by rw [eN]; omega) (by rw [eK]; exact Nat.le_trans (Nat.mul_le_mul hK9 (show componentBytes .int ≤ 8 by decide)) (by decide)) (by rw [eK]; omega) (by decide) (by decide) (by rw [eN]; omega) (by rw [eN, eK]; omega)
  have ec : cA = cy 4 := Option.some.inj (fA.symm.trans (hx_cyE hK).2.2.2.1)
  have ec2 : comp = cy 1 := Option.some.inj (fC.symm.trans (hx_cyE hK).1)
  subst ec
  subst ec2
  rw [eN, eK] at X' step
  generalize hF : Jvm.Free.Multi.fill (T.setVm vm₁) (cy 4) (cy 1) N K (defaultValue .int) N = F at X' step
  have hTh : (T.setVm vm₁).heap = H := hT
  obtain ⟨f1, f2, -, -⟩ := Jvm.Free.Multi.fill_facts (T.setVm vm₁) (cy 4) (cy 1) N K (defaultValue .int) N
  rw [hF, hTh] at f1 f2
  have hold : ∀ q : Nat, q < H.size → F.heap[q]? = H[q]? := fun q hq => by
    have := Jvm.Free.Multi.fill_old (T.setVm vm₁) (cy 4) (cy 1) N K (defaultValue .int) (a := q) (by rw [hTh]; exact hq) N
    rw [hF, hTh] at this
    exact this
  have hrow : ∀ j : Nat, j < N → F.heap[H.size + 1 + j]? = some (Jvm.Free.Multi.innerC (cy 1) K (defaultValue .int)) := fun j hj => by
    have := Jvm.Free.Multi.fill_inner (T.setVm vm₁) (cy 4) (cy 1) N K (defaultValue .int) N j hj
    rw [hF, hTh] at this
    exact this
  rw [List.append_nil] at hP hD
  have hAll : va_P D vwCl (hks h0 cy I J (k :: (List.range N).map (fun j => b + j))) F.heap := fun i q hq => by
    rcases grid_at k hq with ⟨-, rfl⟩ | ⟨j, -, hj, rfl⟩
    · rw [hx_ce4 hk]
      show F.heap[adh h0 k]? = some (arrV (cy 4) N (fun i => va_rf (hx_rows (adh h0) N b i)))
      rw [ho, ← hz, f2, vr_outer]
      congr 2
      funext i
      unfold hx_rows
      by_cases c : i < N
      · rw [if_pos c, if_pos c, hro i c, hz]
      · rw [if_neg c, if_neg c]
    · rw [hx_ce1 (hr j hj)]
      show F.heap[adh h0 (b + j)]? = some (arrV (cy 1) K (fun i => .int (I (b + j) i)))
      rw [hro j hj, ← hz, hrow j hj]
      have e1 : Jvm.Free.Multi.innerC (cy 1) K (defaultValue .int) = arrV (cy 1) K (fun _ => defaultValue .int) := arrV_new (cy 1) K (defaultValue .int)
      rw [e1]
      congr 2
      funext i
      rw [hI j i hj]
      rfl
  have hP1 : va_P D vwCl ((ex ++ hks h0 cy I J (ks ++ (k :: (List.range N).map (fun j => b + j)))) ++ []) F.heap := by
    rw [List.append_nil, hks_app, ← List.append_assoc]
    exact (hP.kept (fun j q hq => hold q.1 ((hP j q hq).lt))).app hAll
  have hD1 : va_D A ((ex ++ hks h0 cy I J (ks ++ (k :: (List.range N).map (fun j => b + j)))) ++ []) := by
    rw [List.append_nil, hks_app, ← List.append_assoc]
    refine va_D_apps (B := H.size) hD (fun j q hq => (hP j q hq).lt) (fun i q hq => ?_) (fun q hq => hA q (by have := hS.1; omega))
    rcases grid_at k hq with ⟨rfl, rfl⟩ | ⟨j, rfl, hj, rfl⟩
    · show adh h0 k = H.size + 0
      omega
    · show adh h0 (b + j) = H.size + (j + 1)
      rw [hro j hj]
      omega
  obtain ⟨t, a1, b1⟩ := kk F.heap locs ls hP1 hD1 (by rw [f1]; omega) ⟨by rw [f1]; have := hS.1; omega, fun q h1 h2 => (hold q (Nat.lt_of_lt_of_le h1 hS.1)).trans (hS.2.1 q h1 h2), hS.2.2⟩ hl F rfl X'
  refine ⟨t, step t ?_, b1⟩
  have e2 : T.heap.size = adh h0 k := by rw [hT, ho, hz]
  rw [e2]
  exact a1
theorem wc_grid5 (hZ : Rc l D h0 cy own cc nL ini d rc rs X) {x y : Int32} {k N b K idx : Nat} (hk : hx_kd k = (5, N, b)) (hr : ∀ j, j < N → hx_kd (b + j) = (3, K, 0)) (ho : adh h0 k = h0 + nn) (hro : ∀ j, j < N → adh h0 (b + j) = h0 + nn + 1 + j) (hI : ∀ j i, j < N → J (b + j) i = 0) (hcl : Cond.classLink own idx "[[J" ∈ hx_ws) (harr : Cond.arrayClass .long ∈ hx_ws) (hx1 : x = nI N) (hy1 : y = nI K) (hN : N ≤ 3000) (hK9 : K ≤ 3000) (hc : ce + (1 + N) ≤ rc) (hs : sl + (N + N * K) ≤ rs) (hdg : decode cc pc = .ok (.multianewarray idx 2, 4)) (kk : X (pc + 4) lv (.ref (adh h0 k) :: st) ex (ks ++ (k :: (List.range N).map (fun j => b + j))) [] I J (nn + 1 + N) (ce + 1 + N) (sl + N + N * K)) : X pc lv (.int y :: .int x :: st) ex ks [] I J nn ce sl := by
  obtain ⟨p, e, R, s, m, args, below, meth, c, A, Q, hx, hb, hml, hown, hts, hK, hAO, hin, hA, hR, rfl⟩ := hZ
  intro H locs ls hP hD hz hS hl
  obtain ⟨r1, r2, r3, r4⟩ := hR
  subst hx1; subst hy1
  have eN : (nI N).toNatClampNeg = N := nI_clamp (by omega)
  have eK : (nI K).toNatClampNeg = K := nI_clamp (by omega)
  intro T hT Xs
  have ed : "[" ++ (FieldType.array .long).toString = "[[J" := by decide +kernel
  obtain ⟨vm₁, cA, comp, -, fA, fC, hO, -, X', step⟩ := Xs.multianewarray2F (ty := .long) hx hown (by rw [ed]; exact hts _ hcl) (show (Cond.arrayOver (.array .long)).before args s = true from hAO.2.1) (hts _ harr) (g := F0 m pc ls (.int (nI K) :: .int (nI N) :: st)) rfl (by rw [hb]; exact hdg) rfl (nI_pos (by omega)) (nI_pos (by omega)) (by rw [eN]; omega) (by rw [eK]; exact Nat.le_trans (Nat.mul_le_mul hK9 (show componentBytes .long ≤ 8 by decide)) (by decide)) (by rw [eK]; omega) (by decide) (by decide) (by rw [eN]; omega) (by rw [eN, eK]; omega)
  have ec : cA = cy 5 := Option.some.inj (fA.symm.trans (hx_cyE hK).2.2.2.2)
  have ec2 : comp = cy 3 := Option.some.inj (fC.symm.trans (hx_cyE hK).2.2.1)
  subst ec
  subst ec2
  rw [eN, eK] at X' step
  generalize hF : Jvm.Free.Multi.fill (T.setVm vm₁) (cy 5) (cy 3) N K (defaultValue .long) N = F at X' step
  have hTh : (T.setVm vm₁).heap = H := hT
  obtain ⟨f1, f2, -, -⟩ := Jvm.Free.Multi.fill_facts (T.setVm vm₁) (cy 5) (cy 3) N K (defaultValue .long) N
  rw [hF, hTh] at f1 f2
  have hold : ∀ q : Nat, q < H.size → F.heap[q]? = H[q]? := fun q hq => by
    have := Jvm.Free.Multi.fill_old (T.setVm vm₁) (cy 5) (cy 3) N K (defaultValue .long) (a := q) (by rw [hTh]; exact hq) N
    rw [hF, hTh] at this
    exact this
  have hrow : ∀ j : Nat, j < N → F.heap[H.size + 1 + j]? = some (Jvm.Free.Multi.innerC (cy 3) K (defaultValue .long)) := fun j hj => by
    have := Jvm.Free.Multi.fill_inner (T.setVm vm₁) (cy 5) (cy 3) N K (defaultValue .long) N j hj
    rw [hF, hTh] at this
    exact this
  rw [List.append_nil] at hP hD
  have hAll : va_P D vwCl (hks h0 cy I J (k :: (List.range N).map (fun j => b + j))) F.heap := fun i q hq => by
    rcases grid_at k hq with ⟨-, rfl⟩ | ⟨j, -, hj, rfl⟩
    · rw [hx_ce5 hk]
      show F.heap[adh h0 k]? = some (arrV (cy 5) N (fun i => va_rf (hx_rows (adh h0) N b i)))
      rw [ho, ← hz, f2, vr_outer]
      congr 2
      funext i
      unfold hx_rows
      by_cases c : i < N
      · rw [if_pos c, if_pos c, hro i c, hz]
      · rw [if_neg c, if_neg c]
    · rw [hx_ce3 (hr j hj)]
      show F.heap[adh h0 (b + j)]? = some (arrV (cy 3) K (fun i => .long (J (b + j) i)))
      rw [hro j hj, ← hz, hrow j hj]
      have e1 : Jvm.Free.Multi.innerC (cy 3) K (defaultValue .long) = arrV (cy 3) K (fun _ => defaultValue .long) := arrV_new (cy 3) K (defaultValue .long)
      rw [e1]
      congr 2
      funext i
      rw [hI j i hj]
      rfl
  have hP1 : va_P D vwCl ((ex ++ hks h0 cy I J (ks ++ (k :: (List.range N).map (fun j => b + j)))) ++ []) F.heap := by
    rw [List.append_nil, hks_app, ← List.append_assoc]
    exact (hP.kept (fun j q hq => hold q.1 ((hP j q hq).lt))).app hAll
  have hD1 : va_D A ((ex ++ hks h0 cy I J (ks ++ (k :: (List.range N).map (fun j => b + j)))) ++ []) := by
    rw [List.append_nil, hks_app, ← List.append_assoc]
    refine va_D_apps (B := H.size) hD (fun j q hq => (hP j q hq).lt) (fun i q hq => ?_) (fun q hq => hA q (by have := hS.1; omega))
    rcases grid_at k hq with ⟨rfl, rfl⟩ | ⟨j, rfl, hj, rfl⟩
    · show adh h0 k = H.size + 0
      omega
    · show adh h0 (b + j) = H.size + (j + 1)
      rw [hro j hj]
      omega
  obtain ⟨t, a1, b1⟩ := kk F.heap locs ls hP1 hD1 (by rw [f1]; omega) ⟨by rw [f1]; have := hS.1; omega, fun q h1 h2 => (hold q (Nat.lt_of_lt_of_le h1 hS.1)).trans (hS.2.1 q h1 h2), hS.2.2⟩ hl F rfl X'
  refine ⟨t, step t ?_, b1⟩
  have e2 : T.heap.size = adh h0 k := by rw [hT, ho, hz]
  rw [e2]
  exact a1
theorem wc_putF (hZ : Rc l D h0 cy own cc nL ini d rc rs X) {a ci N j idx : Nat} {C : String} {T : u_T} {fs : List Value} {v : Value} {ty : Nat → FieldType} {ex' : va_W} (hc : vwCl[ci]? = some (C, T, N)) (hiT : ∀ w ∈ u_ws C T N, w ∈ hx_ws) (hty : ∀ k, k < N → parseFieldDescriptor (T k).2.2.1 = some (ty k)) (hnm : ∀ a, a < N → ∀ b, b < N → a ≠ b → (T a).2.1 ≠ (T b).2.1) (hjN : j < N) (hlk : Cond.fieldLink own idx (T j).1 (T j).2.1 (T j).2.2.1 ∈ hx_ws) (hfin : (T j).2.2.2 = true) (hii : ini) (hdecl : (T j).1 = own) (hn : narrow (ty j) v = v) (hfit : fits (ty j) v = true) (hlen : j < fs.length) (hdg : decode cc pc = .ok (.putfield idx, 3)) (kk : X (pc + 3) lv st ((a, .inr (ci, fs.set j v)) :: ex') ks nw I J nn ce sl) : X pc lv (v :: .ref a :: st) ((a, .inr (ci, fs)) :: ex') ks nw I J nn ce sl := by
  obtain ⟨p, e, R, s, m, args, below, meth, c, A, Q, hx, hb, hml, hown, hts, hK, hAO, hin, hA, hR, rfl⟩ := hZ
  intro H locs ls hP hD hz hS hl
  have hap := va_apart (own := own) hts hiT ty hty hnm hK hc
  have he : (((a, .inr (ci, fs)) :: ex' ++ hks h0 cy I J ks) ++ nw)[0]? = some (a, .inr (ci, fs)) := rfl
  obtain ⟨r, h1, cell, q1, q2, q3, q4⟩ := hP 0 _ he
  have hr : r = (C, T, N) := Option.some.inj (h1.symm.trans hc)
  subst hr
  obtain ⟨hSx, hfc, kC, hkC, hkind⟩ := hK.1 ci _ hc
  obtain ⟨cf, kf, fi, f, hi, hsl⟩ := hSx j hjN
  have hlay := hts _ (hiT _ (u_in_lay hjN))
  unfold u_lay at hlay
  rw [if_pos hfin] at hlay
  have hst := (u_facts hfc hkC (u_lays hts hiT hjN) hi).1
  have hcf : m.cls = cf := by
    obtain ⟨_, _, c', _, _, _, -, -, hf', -, -, -, hown2, -⟩ := Cond.laysFinal_spec hlay
    have e1 : c' = cf := by have := hi.symm.trans hf'; simp at this; exact this.1.symm
    rw [hdecl] at hown2
    rw [← e1]
    exact Option.some.inj (hown.symm.trans hown2)
  have h6 := u_fits hfc hkC hkind (Or.inr hlay) hi (hty j hjN) hn hfit
  refine W.putFinK hx hb hown (hts _ hlk) hi hst hcf (hin hii) (by rw [q2]; exact h6) q1 q3 (by rw [hsl]; exact k2_hasslot (q4 j hjN)) rfl rfl hdg fun H1 e1 e2 e3 => ?_
  rw [hsl] at e1 ⊢
  exact kk H1 _ ls (hP.set hD he ⟨_, hc, t_OB.to (V := updV (vp_V fs) j v) ⟨_, e1, q2, q3, t_set q4 hap hjN v⟩ (fun i _ => vp_updV_set hlen v i)⟩ e3) (hD.set he) (e2.trans hz) (hS.put e2 e3 (hD.2 0 _ he)) hl
theorem wc_put (hZ : Rc l D h0 cy own cc nL ini d rc rs X) {a ci N j idx : Nat} {C : String} {T : u_T} {fs : List Value} {v : Value} {ty : Nat → FieldType} {ex' : va_W} (hc : vwCl[ci]? = some (C, T, N)) (hiT : ∀ w ∈ u_ws C T N, w ∈ hx_ws) (hty : ∀ k, k < N → parseFieldDescriptor (T k).2.2.1 = some (ty k)) (hnm : ∀ a, a < N → ∀ b, b < N → a ≠ b → (T a).2.1 ≠ (T b).2.1) (hjN : j < N) (hlk : Cond.fieldLink own idx (T j).1 (T j).2.1 (T j).2.2.1 ∈ hx_ws) (hfin : (T j).2.2.2 = false) (hn : narrow (ty j) v = v) (hfit : fits (ty j) v = true) (hlen : j < fs.length) (hdg : decode cc pc = .ok (.putfield idx, 3)) (kk : X (pc + 3) lv st ((a, .inr (ci, fs.set j v)) :: ex') ks nw I J nn ce sl) : X pc lv (v :: .ref a :: st) ((a, .inr (ci, fs)) :: ex') ks nw I J nn ce sl := by
  obtain ⟨p, e, R, s, m, args, below, meth, c, A, Q, hx, hb, hml, hown, hts, hK, hAO, hin, hA, hR, rfl⟩ := hZ
  intro H locs ls hP hD hz hS hl
  have hap := va_apart (own := own) hts hiT ty hty hnm hK hc
  have he : (((a, .inr (ci, fs)) :: ex' ++ hks h0 cy I J ks) ++ nw)[0]? = some (a, .inr (ci, fs)) := rfl
  obtain ⟨r, h1, cell, q1, q2, q3, q4⟩ := hP 0 _ he
  have hr : r = (C, T, N) := Option.some.inj (h1.symm.trans hc)
  subst hr
  obtain ⟨hSx, hfc, kC, hkC, hkind⟩ := hK.1 ci _ hc
  obtain ⟨cf, kf, fi, f, hi, hsl⟩ := hSx j hjN
  have hlay := hts _ (hiT _ (u_in_lay hjN))
  unfold u_lay at hlay
  rw [if_neg (by rw [hfin]; decide)] at hlay
  have hst := (u_facts hfc hkC (u_lays hts hiT hjN) hi).1
  have h6 := u_store hfc hkC hkind hlay hi (hty j hjN) hn hfit
  refine W.putK hx hb (f := f) ⟨hown, hts _ hlk, ⟨_, _, _, hi⟩, hst⟩ (by rw [q2]; exact h6) q1 q3 (by rw [hsl]; exact k2_hasslot (q4 j hjN)) rfl rfl hdg fun H1 e1 e2 e3 => ?_
  rw [hsl] at e1 ⊢
  exact kk H1 _ ls (hP.set hD he ⟨_, hc, t_OB.to (V := updV (vp_V fs) j v) ⟨_, e1, q2, q3, t_set q4 hap hjN v⟩ (fun i _ => vp_updV_set hlen v i)⟩ e3) (hD.set he) (e2.trans hz) (hS.put e2 e3 (hD.2 0 _ he)) hl
theorem wc_get (hZ : Rc l D h0 cy own cc nL ini d rc rs X) {a ci N j idx : Nat} {C : String} {T : u_T} {fs : List Value} {v : Value} {ex' : va_W} (hc : vwCl[ci]? = some (C, T, N)) (hiT : ∀ w ∈ u_ws C T N, w ∈ hx_ws) (hjN : j < N) (hlk : Cond.fieldLink own idx (T j).1 (T j).2.1 (T j).2.2.1 ∈ hx_ws) (hv : fs[j]? = some v) (hdg : decode cc pc = .ok (.getfield idx, 3)) (kk : X (pc + 3) lv (v :: st) ((a, .inr (ci, fs)) :: ex') ks nw I J nn ce sl) : X pc lv (.ref a :: st) ((a, .inr (ci, fs)) :: ex') ks nw I J nn ce sl := by
  obtain ⟨p, e, R, s, m, args, below, meth, c, A, Q, hx, hb, hml, hown, hts, hK, hAO, hin, hA, hR, rfl⟩ := hZ
  intro H locs ls hP hD hz hS hl
  exact va_get (D := D) (ref := (T j).1) (C := C) (T := T) (N := N) hx hb (Ts := hx_ws) hts hiT hown hK hP 0 rfl hc j hjN (hts _ hlk) (fun _ h9 => h9) hv hdg (kk H locs ls hP hD hz hS hl)
theorem wc_new (hZ : Rc l D h0 cy own cc nL ini d rc rs X) {C : String} {T : u_T} {N ci k idx : Nat} {ty : Nat → FieldType} {fs : List Value} (hc : vwCl[ci]? = some (C, T, N)) (hiT : ∀ w ∈ u_ws C T N, w ∈ hx_ws) (hty : ∀ k, k < N → parseFieldDescriptor (T k).2.2.1 = some (ty k)) (hcl : Cond.classLink own idx C ∈ hx_ws) (hinst : Cond.instantiable C N ∈ hx_ws) (hini : Cond.initialized C ∈ hx_ws) (hfs : ∀ j, j < N → defaultValue (ty j) = vp_V fs j) (ho : adh h0 k = h0 + nn) (hc1 : ce + 1 ≤ rc) (hs1 : sl + N ≤ rs) (hdg : decode cc pc = .ok (.new idx, 3)) (kk : X (pc + 3) lv (.ref (adh h0 k) :: st) ex ks [(adh h0 k, .inr (ci, fs))] I J (nn + 1) (ce + 1) (sl + N)) : X pc lv st ex ks [] I J nn ce sl := by
  obtain ⟨p, e, R, s, m, args, below, meth, c, A, Q, hx, hb, hml, hown, hts, hK, hAO, hin, hA, hR, rfl⟩ := hZ
  intro H locs ls hP hD hz hS hl
  obtain ⟨r1, r2, r3, r4⟩ := hR
  have hKn := hK.1 ci _ hc
  rw [List.append_nil] at hP hD
  refine W.newcK hx hb hown (hts _ hcl) (hts _ hinst) (hts _ hini) rfl hdg (by omega) (by omega) hKn.2.1 hz fun H1 kC hkC e1 z1 o1 => ?_
  have hP1 : va_P D vwCl ((ex ++ hks h0 cy I J ks) ++ [(adh h0 k, .inr (ci, fs))]) H1 := (hP.kept (fun j q hq => o1 q.1 (by have := (hP j q hq).lt; omega))).app (fun j q hq => by
    have hj : j < 1 := (List.getElem?_eq_some_iff.mp hq).1
    rw [show j = 0 by omega] at hq
    cases hq
    rw [ho]
    exact ⟨_, hc, (u_born ty hts hiT hKn hkC e1 hty).to hfs⟩)
  have k1 := kk H1 locs ls hP1 (hD.push hP (ho.trans hz.symm) (hA _ (by have := hS.1; omega))) (by omega) ⟨by have := hS.1; omega, fun q h1 h2 => (o1 q (by have := hS.1; omega)).trans (hS.2.1 q h1 h2), hS.2.2⟩ hl
  rw [ho] at k1
  rw [← ho] at k1 ⊢
  exact k1
end WLD

/-! rows and arrays in a constructor -/
section WLG
variable {l : Launch} {D : va_G} {h0 : Nat} {cy : Nat → ClassId} {own : String} {cc : ByteArray} {nL d rc rs : Nat} {ini : Prop} {X : HC} {pc : Nat} {lv lv' : List (Nat × Value)} {st : List Value} {ex nw : va_W} {ks : List Nat} {I : MI} {J : MJ} {nn ce sl : Nat}
theorem w3_at {jj k : Nat} (hj : ks[jj]? = some k) : ((ex ++ hks h0 cy I J ks) ++ nw)[ex.length + jj]? = some (adh h0 k, hx_ce (adh h0) cy I J k) := by
  have h := hks_at (h := h0) (cy := cy) (I := I) (J := J) hj
  have hl := (List.getElem?_eq_some_iff.mp h).1
  rw [List.getElem?_append_left (by rw [List.length_append]; omega), List.getElem?_append_right (by omega)]
  rw [show ex.length + jj - ex.length = jj by omega]
  exact h
theorem w3_set {jj k : Nat} {I' : MI} {x : va_E} (hj : ks[jj]? = some k) (hnd : ks.Nodup) (hx : hx_ce (adh h0) cy I' J k = x) (h1 : ∀ a, a ≠ k → I' a = I a) : ((ex ++ hks h0 cy I J ks) ++ nw).set (ex.length + jj) (adh h0 k, x) = (ex ++ hks h0 cy I' J ks) ++ nw := by
  subst hx
  have hl : jj < ks.length := (List.getElem?_eq_some_iff.mp hj).1
  have hlen : (hks h0 cy I J ks).length = ks.length := by unfold hks; rw [List.length_map]
  have e : (hks h0 cy I J ks).set jj (adh h0 k, hx_ce (adh h0) cy I' J k) = hks h0 cy I' J ks := by
    apply List.ext_getElem?
    intro i
    rw [List.getElem?_set]
    by_cases c : jj = i
    · subst c
      rw [if_pos rfl, if_pos (by omega), hks_at hj]
    · rw [if_neg c]
      unfold hks
      rw [List.getElem?_map, List.getElem?_map]
      cases hi : ks[i]? with
      | none => rfl
      | some k' =>
        have hne : k' ≠ k := fun z => by
          subst z
          obtain ⟨a1, a2⟩ := List.getElem?_eq_some_iff.mp hj
          obtain ⟨b1, b2⟩ := List.getElem?_eq_some_iff.mp hi
          have pw := List.pairwise_iff_getElem.mp hnd
          rcases Nat.lt_trichotomy jj i with w | w | w
          · exact absurd (a2.trans b2.symm) (pw _ _ a1 b1 w)
          · exact c w
          · exact absurd (b2.trans a2.symm) (pw _ _ b1 a1 w)
        show some (adh h0 k', hx_ce (adh h0) cy I J k') = some (adh h0 k', hx_ce (adh h0) cy I' J k')
        rw [hx_ce_eq (I := I) (I' := I') (h1 k' hne) rfl]
  rw [List.set_append_left _ _ (by rw [List.length_append]; omega), List.set_append_right _ _ (by omega), show ex.length + jj - ex.length = jj by omega, e]
theorem wc_aald4 (hZ : Rc l D h0 cy own cc nL ini d rc rs X) {k n b : Nat} {i : Int32} (jj q : Nat) (hj : ks[jj]? = some k) (hk : hx_kd k = (4, n, b)) (hi : i = nI q) (hq : q < n) (hdg : decode cc pc = .ok (.aaload, 1)) (kk : X (pc + 1) lv (.ref (adh h0 (b + q)) :: st) ex ks nw I J nn ce sl) : X pc lv (.int i :: .ref (adh h0 k) :: st) ex ks nw I J nn ce sl := by
  obtain ⟨p, e, R, s, m, args, below, meth, c, A, Q, hx, hb, hml, hown, hts, hK, hAO, hin, hA, hR, rfl⟩ := hZ
  intro H locs ls hP hD hz hS hl
  subst hi
  have hn := hx_kd_n hk (by decide)
  have e9 : (nI q).toNatClampNeg = q := nI_clamp (by omega)
  have ha : ((ex ++ hks h0 cy I J ks) ++ nw)[ex.length + jj]? = some (adh h0 k, .inl (cy 4, n, .inr (.inr (.inr (.inr (hx_rows (adh h0) n b)))))) := by rw [w3_at hj, hx_ce4 hk]
  exact W.aald (v := .ref (adh h0 (b + q))) (ty := .array .int) hx hb (hP _ _ ha) ((hK.2 3 _ rfl).1 n (fun j => va_rf (hx_rows (adh h0) n b j))) rfl (fun q => by cases q) (by show ¬ (_ < 0 ∨ (arrV _ _ _).slots.size ≤ _); rw [arrV_size]; exact vp_in_nI hq hn) (by show (arrV _ _ _).slots[_]? = _; rw [e9, arrV_read _ _ hq]; simp [va_rf, hx_rows, hq]) rfl rfl hdg (kk H locs ls hP hD hz hS hl)
theorem wc_iast (hZ : Rc l D h0 cy own cc nL ini d rc rs X) {k n b : Nat} {i x : Int32} (jj q : Nat) (hj : ks[jj]? = some k) (hnd : ks.Nodup) (hk : hx_kd k = (1, n, b)) (hi : i = nI q) (hq : q < n) (hdg : decode cc pc = .ok (.iastore, 1)) (kk : X (pc + 1) lv st ex ks nw (hx_u I k q x) J nn ce sl) : X pc lv (.int x :: .int i :: .ref (adh h0 k) :: st) ex ks nw I J nn ce sl := by
  obtain ⟨p, e, R, s, m, args, below, meth, c, A, Q, hx, hb, hml, hown, hts, hK, hAO, hin, hA, hR, rfl⟩ := hZ
  intro H locs ls hP hD hz hS hl
  subst hi
  have hn := hx_kd_n hk (by decide)
  have e9 : (nI q).toNatClampNeg = q := nI_clamp (by omega)
  have ha : ((ex ++ hks h0 cy I J ks) ++ nw)[ex.length + jj]? = some (adh h0 k, .inl (cy 1, n, .inl (I k))) := by rw [w3_at hj, hx_ce1 hk]
  refine W.iast hx hb (hP _ _ ha) ((hK.2 0 _ rfl).1 n (fun j => .int (I k j))) (fun q => by cases q) (by show ¬ (_ < 0 ∨ (arrV _ _ _).slots.size ≤ _); rw [arrV_size]; exact vp_in_nI hq hn) rfl rfl hdg fun H1 e1 z1 oq => ?_
  have hc1 : va_at D vwCl (adh h0 k, .inl (cy 1, n, .inl (upd (I k) q x))) H1 := by
    show H1[adh h0 k]? = some (vp_cell _ _)
    rw [e1]
    show some ((arrV (cy 1) n (fun j => .int (I k j))).setSlot (nI q).toNatClampNeg (.int x)) = some (arrV (cy 1) n (fun j => .int (upd (I k) q x j)))
    rw [e9, arrV_store]
    congr 2
    funext j
    by_cases c : j = q
    · subst c
      simp [updV, upd]
    · simp [updV, upd, c]
  have hP1 := hP.set hD ha hc1 oq
  have hD1 := hD.set (e := .inl (cy 1, n, .inl (upd (I k) q x))) ha
  rw [w3_set (I' := hx_u I k q x) hj hnd (by rw [hx_ce1 hk, hx_u_same]) (fun a ha => hx_u_ne I q x ha)] at hP1 hD1
  exact kk H1 _ ls hP1 hD1 (z1.trans hz) (hS.put z1 oq (hD.2 _ _ ha)) hl
end WLG
theorem arrV_cg {c : ClassId} {n : Nat} {f g : Nat → Value} (h : ∀ i, i < n → f i = g i) : arrV c n f = arrV c n g := by
  have e : (fun j : Fin n => f j.val) = (fun j : Fin n => g j.val) := funext (fun j => h j.val j.isLt)
  unfold arrV
  rw [e]
/-- the same cells, where two memories tell the same within the arrays -/
theorem hks_conv {D : va_G} {h0 : Nat} {cy : Nat → ClassId} {I I' : MI} {J : MJ} {ks : List Nat} {H : Heap} (h : ∀ k ∈ ks, I' k = I k ∨ ∃ n b, hx_kd k = (1, n, b) ∧ ∀ i, i < n → I' k i = I k i) (hP : va_P D vwCl (hks h0 cy I J ks) H) : va_P D vwCl (hks h0 cy I' J ks) H := fun i q hq => by
  obtain ⟨k, hk, rfl⟩ := hks_in hq
  have h9 := hP i _ (hks_at hk)
  rcases h k (List.mem_of_getElem? hk) with e | ⟨n, b, hd, e⟩
  · rw [hx_ce_eq (I := I) e rfl]
    exact h9
  · rw [hx_ce1 hd] at h9 ⊢
    have h8 : H[adh h0 k]? = some (arrV (cy 1) n (fun j => .int (I k j))) := h9
    show H[adh h0 k]? = some (arrV (cy 1) n (fun j => .int (I' k j)))
    rw [h8]
    exact congrArg some (arrV_cg (fun i hi => by rw [e i hi]))

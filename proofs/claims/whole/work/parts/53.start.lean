/-! from the law's entry -/
theorem ord_at : ∀ k, k < 124 → ([0, 1, 6, 7, 8, 33, 34, 35, 36, 37, 38, 39, 40, 41, 42, 43, 44, 9, 45, 46, 47, 48, 49, 50, 51, 52, 53, 54, 55, 56, 2, 10, 11, 57, 58, 59, 60, 61, 62, 12, 63, 64, 65, 66, 67, 68, 13, 14, 15, 3, 16, 69, 70, 71, 72, 73, 74, 75, 76, 77, 78, 79, 80, 81, 82, 83, 84, 85, 86, 87, 88, 89, 90, 91, 92, 93, 94, 95, 96, 97, 98, 99, 4, 17, 100, 101, 102, 103, 104, 105, 106, 107, 108, 109, 110, 111, 18, 112, 113, 114, 115, 116, 117, 118, 119, 120, 121, 122, 123, 19, 5, 20, 21, 22, 23, 24, 25, 26, 27, 28, 29, 30, 31, 32] : List Nat)[hx_of.getD k 0]? = some k := by decide +kernel
theorem rel_0 : Rel2 I0 I0 0 0 0 := by
  have z : ∀ {k i : Nat}, ¬ (k = 25 ∨ 112 ≤ k) → I0 k i = 0 := fun h => i0_z h
  have e0 : (0 : Int32).toInt = 0 := by decide
  have e1 : (1000 : Int32).toInt = 1000 := by decide
  have ev : ∀ p q, p < 12 → vC I0 p q = 0 := fun p q hp => z (by omega)
  have ew : ∀ p q, p < 12 → wC I0 p q = 0 := fun p q hp => z (by omega)
  have eg : ∀ p q, p < 12 → gC I0 p q = 0 := fun p q hp => z (by omega)
  have eb : ∀ p q, bC I0 p q = 1000 := fun p q => i0_1 (Or.inr (by omega))
  have fb : ∀ p q, bM I0 p q = 1000 := fun p q => i0_1 (Or.inl rfl)
  have fv : ∀ p q, vM I0 p q = 0 := fun p q => z (by omega)
  have fw : ∀ p q, wM I0 p q = 0 := fun p q => z (by omega)
  have fg : ∀ p q, gM I0 p q = 0 := fun p q => z (by omega)
  refine ⟨⟨⟨z (by omega), z (by omega), by omega⟩, ⟨z (by omega), z (by omega), by omega⟩, ⟨z (by omega), z (by omega), by omega⟩, ?_, fun p hp => ?_, fun p q hp hq => ?_, fun p r hp hr => ?_, fun p q hp hq => ?_, fun p r hp hr => ?_, fun p q hp hq _ => ev p q hp⟩, ?_⟩
  · rw [z (by omega), z (by omega)]
  · rw [z (k := 6) (by omega), z (k := 7) (by omega), z (k := 20) (by omega), z (k := 21) (by omega), e0]
    exact ⟨rfl, rfl, by omega, by omega⟩
  · rw [ev p q hp, ew p q hp, eg p q hp, fv, fw, fg]
    exact ⟨rfl, rfl, rfl⟩
  · rw [eb, fb]
  · rw [ev p q hp, ew p q hp, eg p q hp, e0]
    omega
  · rw [eb, e1]
    omega
  · unfold hisR
    rw [z (by omega), z (by omega), z (by omega), z (by omega), z (by omega), z (by omega), z (by omega), z (by omega)]
    exact ⟨rfl, rfl, rfl, rfl⟩
set_option maxHeartbeats 1000000 in
theorem whole_start {p : Program} {e : Env} {s : State} {m : MethodId} {below : List Frame} {meth : Method} {c : Code} (l : Launch) (hflags : l.flags = flags0) {b L : Nat} {xs : Nat → Int32} (hL : L ≤ 2048) (C0 : lw_At p s m meth c b L xs) : W p l e room_1 s m #[Value.ref b] below meth c s.heap [] 0 0 (lw_Z below #[Value.ref b] s) (entryFrame m ([Value.ref b] : List Value).toArray 4) := by
  obtain ⟨hx, hb, hr, hml, hown, hts, hXs, hbl, hlocks, hgv⟩ := id C0
  have hts9 : ∀ w ∈ hx_ws, w.before #[Value.ref b] s = true := fun w h => hts w (hx_wsI w h)
  obtain ⟨c0, i0, K0⟩ := u_known (C := RX0) (T := TX0) (N := 5) (n := 5) hts9 inX0 (hts9 _ tb_164)
  obtain ⟨c1, i1, K1⟩ := u_known (C := RX1) (T := TX1) (N := 7) (n := 7) hts9 inX1 (hts9 _ tb_42)
  obtain ⟨c2, i2, K2⟩ := u_known (C := RX2) (T := TX2) (N := 7) (n := 7) hts9 inX2 (hts9 _ tb_129)
  obtain ⟨c3, i3, K3⟩ := u_known (C := RX3) (T := TX3) (N := 10) (n := 10) hts9 inX3 (hts9 _ tb_88)
  obtain ⟨c4, i4, K4⟩ := u_known (C := RX4) (T := TX4) (N := 4) (n := 4) hts9 inX4 (hts9 _ tb_34)
  obtain ⟨c5, i5, K5⟩ := u_known (C := RX5) (T := TX5) (N := 25) (n := 25) hts9 inX5 (hts9 _ tb_495)
  obtain ⟨dC, dI, hKc⟩ : ∃ (dC : Nat → ClassId) (dI : Nat → Nat → Nat), ∀ (k : Nat) (q : vw_C), vwCl[k]? = some q → u_Kn s q.1 q.2.1 q.2.2 (dC k) (dI k) := by
    refine ⟨fun k => if k = 0 then c0 else if k = 1 then c1 else if k = 2 then c2 else if k = 3 then c3 else if k = 4 then c4 else c5, fun k => if k = 0 then i0 else if k = 1 then i1 else if k = 2 then i2 else if k = 3 then i3 else if k = 4 then i4 else i5, ?_⟩
    intro k q hq
    match k, hq with
    | 0, hq => cases hq; exact K0
    | 1, hq => cases hq; exact K1
    | 2, hq => cases hq; exact K2
    | 3, hq => cases hq; exact K3
    | 4, hq => cases hq; exact K4
    | 5, hq => cases hq; exact K5
    | k + 6, hq => simp [vwCl] at hq
  obtain ⟨a1, x1, m1, u1, v1, w1⟩ := Cond.arrayClass_spec (hts9 _ tb_85)
  obtain ⟨a2, x2, m2, u2, v2, w2⟩ := Cond.arrayClass_spec (hts9 _ tb_86)
  obtain ⟨a3, x3, m3, u3, v3, w3⟩ := Cond.arrayClass_spec (hts9 _ tb_162)
  obtain ⟨m4, a4, x4, -, -, v4, w4, u4⟩ := arrayOver_specB (hts _ tb_48)
  obtain ⟨m5, a5, x5, -, -, v5, w5, u5⟩ := arrayOver_specB (hts _ tb_135)
  obtain ⟨cy, y1, y2, y3, y4, y5⟩ : ∃ cy : Nat → ClassId, cy 1 = a1 ∧ cy 2 = a2 ∧ cy 3 = a3 ∧ cy 4 = a4 ∧ cy 5 = a5 := ⟨fun k => if k = 1 then a1 else if k = 2 then a2 else if k = 3 then a3 else if k = 4 then a4 else a5, rfl, rfl, rfl, rfl, rfl⟩
  have hK : va_K (dC, dI) vwCl (hx_ty cy) s := by
    refine ⟨hKc, fun k q hq => ?_⟩
    unfold hx_ty at hq
    rw [y1, y2, y3, y4, y5] at hq
    match k, hq with
    | 0, hq => cases hq; exact ⟨fun n z => ⟨fun k h => (by cases h), x1, v1, m1, w1⟩, u1⟩
    | 1, hq => cases hq; exact ⟨fun n z => ⟨fun k h => (by cases h), x2, v2, m2, w2⟩, u2⟩
    | 2, hq => cases hq; exact ⟨fun n z => ⟨fun k h => (by cases h), x3, v3, m3, w3⟩, u3⟩
    | 3, hq => cases hq; exact ⟨fun n z => ⟨fun k h => (by cases h), x4, v4, m4, w4⟩, u4⟩
    | 4, hq => cases hq; exact ⟨fun n z => ⟨fun k h => (by cases h), x5, v5, m5, w5⟩, u5⟩
    | k + 5, hq => simp at hq
  have hAO : aoV s := ⟨hts _ tb_48, hts _ tb_135, va_Nw.of rfl (hts _ tb_43)⟩
  have hbA : ¬ (fun q : Nat => s.heap.size ≤ q) b := Nat.not_le.mpr hbl
  obtain ⟨h0, hh0⟩ : ∃ h0, h0 = s.heap.size := ⟨_, rfl⟩
  have hRl : Rl l (dC, dI) (adh h0) cy RL cL_law 4 13 (hx_X p l e room_1 s m #[Value.ref b] below meth c (dC, dI) (adh h0) cy (fun q : Nat => s.heap.size ≤ q) 4 124 3648 (lw_Z below #[Value.ref b] s)) :=
    ⟨p, e, room_1, s, m, _, below, meth, c, _, 124, 3648, _, hx, hb, hml, hown, hts9, hK, fun k _ => by show s.heap.size ≤ h0 + _; omega, adh_inj h0, ⟨Nat.le_of_ble_eq_true rfl, Nat.le_of_ble_eq_true rfl, Nat.le_of_ble_eq_true rfl, Nat.le_of_ble_eq_true rfl⟩, rfl⟩
  have hSc : Sc (hx_X p l e room_1 s m #[Value.ref b] below meth c (dC, dI) (adh h0) cy (fun q : Nat => s.heap.size ≤ q) 4 124 3648 (lw_Z below #[Value.ref b] s)) b L xs := by
    refine ⟨fun pc j lv st I J hj hd kk H locs ls hP hS hl => ?_, fun pc lv st I J hd kk H locs ls hP hS hl => ?_, fun pc lv I J hd H locs ls hP hS hl => ?_⟩
    · refine va_sld hx hb hXs hbl hbA hS (vp_in_nI hj (by omega)) hd ?_
      rw [show (nI j).toNatClampNeg = j from nI_clamp (by omega)]
      exact kk H locs ls hP hS hl
    · exact va_slen hx hb hXs hbl hbA hS hd (kk H locs ls hP hS hl)
    · refine va_forget (fun q hq => hS.2.2 q hq) ?_
      refine W.widen (k := 600000) (n := 7302250) (Nat.le_of_ble_eq_true rfl) (Nat.le_of_ble_eq_true rfl) ?_
      exact lw_ret hx hb hr hlocks hd
  have hRc : Rc l (dC, dI) h0 cy RL cL_law 4 False 13 600000 7302250 (hx_C p l e room_1 s m #[Value.ref b] below meth c (dC, dI) h0 cy (fun q : Nat => s.heap.size ≤ q) 4 (lw_Z below #[Value.ref b] s)) :=
    ⟨p, e, room_1, s, m, _, below, meth, c, _, _, hx, hb, hml, hown, hts9, hK, hAO, False.elim, fun _ h => h, ⟨Nat.le_of_ble_eq_true rfl, Nat.le_of_ble_eq_true rfl, Nat.le_refl _, Nat.le_refl _⟩, rfl⟩
  have hl := lv_entry ([.ref b]) (n := 4) (Nat.le_of_ble_eq_true rfl)
  rw [lg_entry_eq]
  have hend : ∀ H locs ls, va_P (dC, dI) vwCl (hx_w (adh h0) cy I0 J0) H → va_S (fun q : Nat => s.heap.size ≤ q) s.heap H locs → lv_has ls 4 [(2, .ref (adh h0 5)), (1, .ref (adh h0 0)), (0, .ref b)] → W p l e room_1 s m #[Value.ref b] below meth c H locs 124 3648 (lw_Z below #[Value.ref b] s) (F0 m 16 ls []) := by
    have k1 : hx_X p l e room_1 s m #[Value.ref b] below meth c (dC, dI) (adh h0) cy (fun q : Nat => s.heap.size ≤ q) 4 124 3648 (lw_Z below #[Value.ref b] s) 16 [(2, .ref (adh h0 5)), (1, .ref (adh h0 0)), (0, .ref b)] [] I0 J0 := by
      refine wl_iconst hRl (v := 0) dL_law_16 (by decide) ?_
      refine wl_istore_n hRl (lv' := [(3, .int 0), (2, .ref (adh h0 5)), (1, .ref (adh h0 0)), (0, .ref b)]) rfl (by decide) dL_law_17 ?_
      exact law_loop (adh_inj h0) hRl hSc hL (L + 5) 0 I0 J0 (by omega) (by omega) ⟨0, 0, 0, rel_0⟩
    exact k1
  have hgo : ∀ X : HC, Rc l (dC, dI) h0 cy RL cL_law 4 False 13 600000 7302250 X → X 16 [(2, .ref (adh h0 5)), (1, .ref (adh h0 0)), (0, .ref b)] [] [] [0, 1, 6, 7, 8, 33, 34, 35, 36, 37, 38, 39, 40, 41, 42, 43, 44, 9, 45, 46, 47, 48, 49, 50, 51, 52, 53, 54, 55, 56, 2, 10, 11, 57, 58, 59, 60, 61, 62, 12, 63, 64, 65, 66, 67, 68, 13, 14, 15, 3, 16, 69, 70, 71, 72, 73, 74, 75, 76, 77, 78, 79, 80, 81, 82, 83, 84, 85, 86, 87, 88, 89, 90, 91, 92, 93, 94, 95, 96, 97, 98, 99, 4, 17, 100, 101, 102, 103, 104, 105, 106, 107, 108, 109, 110, 111, 18, 112, 113, 114, 115, 116, 117, 118, 119, 120, 121, 122, 123, 19, 5, 20, 21, 22, 23, 24, 25, 26, 27, 28, 29, 30, 31, 32] [] I0 J0 124 124 3648 → X 0 [(0, .ref b)] [] [] [] [] I0 J0 0 0 0 := by
    intro X hX kend
    refine wc_new hX (C := RX4) (T := TX4) (N := 4) (ci := 4) (k := 0) (ty := tyX4) (fs := [.null, .null, .null, .null]) rfl inX4 tyX4_ok tb_33 tb_34 tb_26 dfX4 rfl (by decide) (by decide) dL_law_0 ?_
    refine wc_dup hX dL_law_3 rfl ?_
    refine wc_make hX (n := 0) k_X4 rfl tb_36 tb_26 tb_37 ⟨by decide, by decide, by decide +kernel⟩ (by decide) tb_35 rfl rfl (by decide) (Nat.le_of_ble_eq_true rfl) (by decide) (by decide) (by decide +kernel) (by decide +kernel) (by decide +kernel) dL_law_4 ?_
    show X 7 [(0, .ref b)] [.ref (adh h0 0)] [] [0, 1, 6, 7, 8, 33, 34, 35, 36, 37, 38, 39, 40, 41, 42, 43, 44, 9, 45, 46, 47, 48, 49, 50, 51, 52, 53, 54, 55, 56, 2, 10, 11, 57, 58, 59, 60, 61, 62, 12, 63, 64, 65, 66, 67, 68, 13, 14, 15, 3, 16, 69, 70, 71, 72, 73, 74, 75, 76, 77, 78, 79, 80, 81, 82, 83, 84, 85, 86, 87, 88, 89, 90, 91, 92, 93, 94, 95, 96, 97, 98, 99, 4, 17, 100, 101, 102, 103, 104, 105, 106, 107, 108, 109, 110, 111, 18, 112, 113, 114, 115, 116, 117, 118, 119, 120, 121, 122, 123, 19] [] I0 J0 110 110 947
    refine wc_astore_n hX (lv' := [(1, .ref (adh h0 0)), (0, .ref b)]) rfl (by decide) dL_law_7 ?_
    refine wc_new hX (C := RX5) (T := TX5) (N := 25) (ci := 5) (k := 5) (ty := tyX5) (fs := [.int 0, .int 0, .int 0, .int 0, .null, .null, .null, .null, .null, .null, .int 0, .int 0, .int 0, .int 0, .null, .null, .null, .null, .int 0, .int 0, .int 0, .null, .null, .null, .long 0]) rfl inX5 tyX5_ok tb_494 tb_495 tb_31 dfX5 rfl (by decide) (by decide) dL_law_8 ?_
    refine wc_dup hX dL_law_11 rfl ?_
    refine wc_make hX (n := 0) k_X5 rfl tb_497 tb_31 tb_498 ⟨by decide, by decide, by decide +kernel⟩ (by decide) tb_496 rfl rfl (by decide) (Nat.le_of_ble_eq_true rfl) (by decide) (by decide) (by decide +kernel) (by decide +kernel) (by decide +kernel) dL_law_12 ?_
    show X 15 [(1, .ref (adh h0 0)), (0, .ref b)] [.ref (adh h0 5)] [] [0, 1, 6, 7, 8, 33, 34, 35, 36, 37, 38, 39, 40, 41, 42, 43, 44, 9, 45, 46, 47, 48, 49, 50, 51, 52, 53, 54, 55, 56, 2, 10, 11, 57, 58, 59, 60, 61, 62, 12, 63, 64, 65, 66, 67, 68, 13, 14, 15, 3, 16, 69, 70, 71, 72, 73, 74, 75, 76, 77, 78, 79, 80, 81, 82, 83, 84, 85, 86, 87, 88, 89, 90, 91, 92, 93, 94, 95, 96, 97, 98, 99, 4, 17, 100, 101, 102, 103, 104, 105, 106, 107, 108, 109, 110, 111, 18, 112, 113, 114, 115, 116, 117, 118, 119, 120, 121, 122, 123, 19, 5, 20, 21, 22, 23, 24, 25, 26, 27, 28, 29, 30, 31, 32] [] I0 J0 124 124 3648
    refine wc_astore_n hX (lv' := [(2, .ref (adh h0 5)), (1, .ref (adh h0 0)), (0, .ref b)]) rfl (by decide) dL_law_15 ?_
    exact kend
  refine hgo _ hRc ?_ s.heap [] _ (fun k q h => by simp [hks] at h) ⟨fun i j x y h => by simp [hks] at h, fun k x h => by simp [hks] at h⟩ hh0.symm va_S.rf hl
  intro H locs ls hP hD hz hS hl2
  refine hend H locs ls (fun k q hq => ?_) hS hl2
  have hk : k < 124 := by have := (List.getElem?_eq_some_iff.mp hq).1; rw [hx_len] at this; exact this
  rw [hx_at hk] at hq
  cases hq
  rw [List.append_nil, List.nil_append] at hP
  exact hP _ _ (hks_at (ord_at k hk))

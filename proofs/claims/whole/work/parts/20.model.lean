/-! the reference: its private methods -/
theorem within_01 (x a b : Int32) : withinF x a b = 0 ∨ withinF x a b = 1 := by
  unfold withinF
  split
  · exact Or.inr rfl
  · exact Or.inl rfl
set_option maxHeartbeats 400000 in
theorem c_X5_in {l : Launch} {D : va_G} {ad : Nat → Nat} {cy : Nat → ClassId} (hi : hx_inj ad) (I : MI) (J : MJ) (x a b : Int32) : Ct l D ad cy yX5_in cX5_in 3 (some .boolean) 0 [.int x, .int a, .int b] I J (hx_is (some (.int (withinF x a b))) I J) := by
  refine ct_start hi (by decide +kernel) (Nat.le_of_ble_eq_true rfl) (fun X hX hT => ?_)
  show X 0 [(0, .int x), (1, .int a), (2, .int b)] [] I J
  refine wl_iload_n hX 0 rfl dX5_in_0 ?_
  refine wl_iload_n hX 1 rfl dX5_in_1 ?_
  refine wl_icmp_lt hX (tgt := 14) dX5_in_2 (by decide) (fun h1 => ?_) (fun h1 => ?_)
  · refine wl_iconst hX (v := 0) dX5_in_14 (by decide) ?_
    exact wl_zreturn hT dX5_in_15 (by decide) (hx_ri (if_neg (fun z => by have z1 := Int32.le_iff_toInt_le.mp z.1; rw [Int32.lt_iff_toInt_lt] at h1; omega)).symm)
  · refine wl_iload_n hX 0 rfl dX5_in_5 ?_
    refine wl_iload_n hX 2 rfl dX5_in_6 ?_
    refine wl_icmp_gt hX (tgt := 14) dX5_in_7 (by decide) (fun h2 => ?_) (fun h2 => ?_)
    · refine wl_iconst hX (v := 0) dX5_in_14 (by decide) ?_
      exact wl_zreturn hT dX5_in_15 (by decide) (hx_ri (if_neg (fun z => by have z1 := Int32.le_iff_toInt_le.mp z.2; rw [Int32.lt_iff_toInt_lt] at h2; omega)).symm)
    · refine wl_iconst hX (v := 1) dX5_in_10 (by decide) ?_
      refine wl_goto hX (tgt := 15) dX5_in_11 (by decide) ?_
      exact wl_zreturn hT dX5_in_15 (by decide) (hx_ri (if_pos ⟨by rw [Int32.le_iff_toInt_le]; rw [Int32.lt_iff_toInt_lt] at h1; omega, by rw [Int32.le_iff_toInt_le]; rw [Int32.lt_iff_toInt_lt] at h2; omega⟩).symm)

set_option maxHeartbeats 400000 in
theorem c_X5_isPerson {l : Launch} {D : va_G} {ad : Nat → Nat} {cy : Nat → ClassId} (hi : hx_inj ad) (I : MI) (J : MJ) (x : Int32) (P : Nat) (hP : I 5 0 = nI P) (hP12 : P ≤ 12) : Ct l D ad cy yX5_isPerson cX5_isPerson 2 (some .boolean) 1 [.ref (ad 5), .int x] I J (hx_is (some (.int (inF x (nI P)))) I J) := by
  refine ct_start hi (by decide +kernel) (Nat.le_of_ble_eq_true rfl) (fun X hX hT => ?_)
  show X 0 [(0, .ref (ad 5)), (1, .int x)] [] I J
  refine wl_iload_n hX 1 rfl dX5_isPerson_0 ?_
  refine wl_iconst hX (v := 0) dX5_isPerson_1 (by decide) ?_
  refine wl_aload_n hX 0 rfl dX5_isPerson_2 ?_
  refine gf_X5_0 hX tb_500 dX5_isPerson_3 ?_
  refine wl_eqi (y := nI P) hP ?_
  refine wl_iconst hX (v := 1) dX5_isPerson_6 (by decide) ?_
  refine wl_isub hX dX5_isPerson_7 ?_
  refine wl_cSi hX (c_X5_in hi I J x 0 (nI P - 1)) mv_X5_in tb_580 rfl rfl (by omega) (Nat.le_of_ble_eq_true rfl) dX5_isPerson_8 ?_
  exact wl_zreturn hT dX5_isPerson_11 (within_01 _ _ _) (hx_ri (within_in (by omega)))

set_option maxHeartbeats 400000 in
theorem c_X5_isQuestion {l : Launch} {D : va_G} {ad : Nat → Nat} {cy : Nat → ClassId} (hi : hx_inj ad) (I : MI) (J : MJ) (x : Int32) (Q : Nat) (hQ : I 5 1 = nI Q) (hQ6 : Q ≤ 6) : Ct l D ad cy yX5_isQuestion cX5_isQuestion 2 (some .boolean) 1 [.ref (ad 5), .int x] I J (hx_is (some (.int (inF x (nI Q)))) I J) := by
  refine ct_start hi (by decide +kernel) (Nat.le_of_ble_eq_true rfl) (fun X hX hT => ?_)
  show X 0 [(0, .ref (ad 5)), (1, .int x)] [] I J
  refine wl_iload_n hX 1 rfl dX5_isQuestion_0 ?_
  refine wl_iconst hX (v := 0) dX5_isQuestion_1 (by decide) ?_
  refine wl_aload_n hX 0 rfl dX5_isQuestion_2 ?_
  refine gf_X5_1 hX tb_501 dX5_isQuestion_3 ?_
  refine wl_eqi (y := nI Q) hQ ?_
  refine wl_iconst hX (v := 1) dX5_isQuestion_6 (by decide) ?_
  refine wl_isub hX dX5_isQuestion_7 ?_
  refine wl_cSi hX (c_X5_in hi I J x 0 (nI Q - 1)) mv_X5_in tb_580 rfl rfl (by omega) (Nat.le_of_ble_eq_true rfl) dX5_isQuestion_8 ?_
  exact wl_zreturn hT dX5_isQuestion_11 (within_01 _ _ _) (hx_ri (within_in (by omega)))

set_option maxHeartbeats 400000 in
theorem c_X5_isProject {l : Launch} {D : va_G} {ad : Nat → Nat} {cy : Nat → ClassId} (hi : hx_inj ad) (I : MI) (J : MJ) (x : Int32) (R : Nat) (hR : I 5 2 = nI R) (hR6 : R ≤ 6) : Ct l D ad cy yX5_isProject cX5_isProject 2 (some .boolean) 1 [.ref (ad 5), .int x] I J (hx_is (some (.int (inF x (nI R)))) I J) := by
  refine ct_start hi (by decide +kernel) (Nat.le_of_ble_eq_true rfl) (fun X hX hT => ?_)
  show X 0 [(0, .ref (ad 5)), (1, .int x)] [] I J
  refine wl_iload_n hX 1 rfl dX5_isProject_0 ?_
  refine wl_iconst hX (v := 0) dX5_isProject_1 (by decide) ?_
  refine wl_aload_n hX 0 rfl dX5_isProject_2 ?_
  refine gf_X5_2 hX tb_502 dX5_isProject_3 ?_
  refine wl_eqi (y := nI R) hR ?_
  refine wl_iconst hX (v := 1) dX5_isProject_6 (by decide) ?_
  refine wl_isub hX dX5_isProject_7 ?_
  refine wl_cSi hX (c_X5_in hi I J x 0 (nI R - 1)) mv_X5_in tb_580 rfl rfl (by omega) (Nat.le_of_ble_eq_true rfl) dX5_isProject_8 ?_
  exact wl_zreturn hT dX5_isProject_11 (within_01 _ _ _) (hx_ri (within_in (by omega)))

set_option maxHeartbeats 400000 in
theorem c_X5_costOf {l : Launch} {D : va_G} {ad : Nat → Nat} {cy : Nat → ClassId} (hi : hx_inj ad) (I : MI) (J : MJ) (p : Nat) (hp : p < 12) (Q : Nat) (hQ : I 5 1 = nI Q) (hQ6 : Q ≤ 6) : Ct l D ad cy yX5_costOf cX5_costOf 4 (some .int) 0 [.ref (ad 5), .int (nI p)] I J (hx_is (some (.int (costF (vM I) Q p))) I J) := by
  refine ct_start hi (by decide +kernel) (Nat.le_of_ble_eq_true rfl) (fun X hX hT => ?_)
  show X 0 [(0, .ref (ad 5)), (1, .int (nI p))] [] I J
  refine wl_iconst hX (v := 0) dX5_costOf_0 (by decide) ?_
  refine wl_istore_n hX (lv' := [(2, .int 0), (0, .ref (ad 5)), (1, .int (nI p))]) rfl (by decide) dX5_costOf_1 ?_
  refine wl_iconst hX (v := 0) dX5_costOf_2 (by decide) ?_
  refine wl_istore_n hX (lv' := [(3, .int 0), (2, .int 0), (0, .ref (ad 5)), (1, .int (nI p))]) rfl (by decide) dX5_costOf_3 ?_
  refine wl_sub hX [2, 3, 1, 0] rfl ?_
  have L : ∀ (k q : Nat), q ≤ Q → Q - q < k → X 4 [(0, .ref (ad 5)), (1, .int (nI p)), (2, .int (costF (vM I) q p)), (3, .int (nI q))] [] I J := by
    intro k
    induction k with
    | zero => exact fun _  _ h => absurd h (Nat.not_lt_zero _)
    | succ k ihL =>
      intro q  hqn hqk
      refine wl_iload_n hX 3 rfl dX5_costOf_4 ?_
      refine wl_aload_n hX 0 rfl dX5_costOf_5 ?_
      refine gf_X5_1 hX tb_501 dX5_costOf_6 ?_
      refine wl_eqi (y := nI Q) hQ ?_
      refine wl_icmp_ge hX (tgt := 44) dX5_costOf_9 (by decide) (fun hqc => ?_) (fun hqc => ?_)
      · have hqe : q = Q := by
          have h9 := (nI_leI (by omega) (by omega)).mp hqc
          omega
        refine wl_iload_n hX 2 rfl dX5_costOf_44 ?_
        exact wl_ireturn hT dX5_costOf_45 (hx_ri (by rw [hqe]))
      · have hq1 : q < Q := Nat.lt_of_not_le (fun z => hqc ((nI_leI (by omega) (by omega)).mpr z))
        refine wl_iload_n hX 2 rfl dX5_costOf_12 ?_
        refine wl_aload_n hX 0 rfl dX5_costOf_13 ?_
        refine gf_X5_6 hX tb_506 dX5_costOf_14 ?_
        refine wl_bipush hX (v := 6) dX5_costOf_17 (by decide) ?_
        refine wl_iload_n hX 1 rfl dX5_costOf_19 ?_
        refine wl_imul hX dX5_costOf_20 ?_
        refine wl_iload_n hX 3 rfl dX5_costOf_21 ?_
        refine wl_iadd hX dX5_costOf_22 ?_
        refine wl_iald hX (6 * p + q) kc_22 (hx_ix6 p q) (by omega) dX5_costOf_23 ?_
        refine wl_aload_n hX 0 rfl dX5_costOf_24 ?_
        refine gf_X5_6 hX tb_506 dX5_costOf_25 ?_
        refine wl_bipush hX (v := 6) dX5_costOf_28 (by decide) ?_
        refine wl_iload_n hX 1 rfl dX5_costOf_30 ?_
        refine wl_imul hX dX5_costOf_31 ?_
        refine wl_iload_n hX 3 rfl dX5_costOf_32 ?_
        refine wl_iadd hX dX5_costOf_33 ?_
        refine wl_iald hX (6 * p + q) kc_22 (hx_ix6 p q) (by omega) dX5_costOf_34 ?_
        refine wl_imul hX dX5_costOf_35 ?_
        refine wl_iadd hX dX5_costOf_36 ?_
        refine wl_istore_n hX (lv' := [(2, .int ((costF (vM I) q p) + ((I 22 (6 * p + q)) * (I 22 (6 * p + q))))), (0, .ref (ad 5)), (1, .int (nI p)), (3, .int (nI q))]) rfl (by decide) dX5_costOf_37 ?_
        refine wl_iinc hX (v := nI (q + 1)) (lv' := [(3, .int (nI (q + 1))), (2, .int ((costF (vM I) q p) + ((I 22 (6 * p + q)) * (I 22 (6 * p + q))))), (0, .ref (ad 5)), (1, .int (nI p))]) 3 rfl (nI_1 _) rfl (by decide) dX5_costOf_38 ?_
        refine wl_goto hX (tgt := 4) dX5_costOf_41 (by decide) ?_
        refine wl_sub hX [2, 3, 1, 0] rfl ?_
        exact ihL (q + 1) (by omega) (by omega)
  exact L (Q + 1) 0 (by omega) (by omega)

set_option maxHeartbeats 400000 in
theorem c_X5_others_all {l : Launch} {D : va_G} {ad : Nat → Nat} {cy : Nat → ClassId} (hi : hx_inj ad) (I : MI) (J : MJ) (q : Nat) (hq : q < 6) (P : Nat) (hP : I 5 0 = nI P) (hP12 : P ≤ 12) : Ct l D ad cy yX5_others cX5_others 5 (some .int) 0 [.ref (ad 5), .int (nI q), .int (-1)] I J (hx_is (some (.int (countF (I 21) (vM I) P q))) I J) := by
  refine ct_start hi (by decide +kernel) (Nat.le_of_ble_eq_true rfl) (fun X hX hT => ?_)
  show X 0 [(0, .ref (ad 5)), (1, .int (nI q)), (2, .int (-1))] [] I J
  refine wl_iconst hX (v := 0) dX5_others_0 (by decide) ?_
  refine wl_istore_n hX (lv' := [(3, .int 0), (0, .ref (ad 5)), (1, .int (nI q)), (2, .int (-1))]) rfl (by decide) dX5_others_1 ?_
  refine wl_iconst hX (v := 0) dX5_others_2 (by decide) ?_
  refine wl_istore hX (lv' := [(4, .int 0), (3, .int 0), (0, .ref (ad 5)), (1, .int (nI q)), (2, .int (-1))]) rfl (by decide) dX5_others_3 ?_
  refine wl_sub hX [2, 3, 4, 1, 0] rfl ?_
  have L : ∀ (k p : Nat), p ≤ P → P - p < k → X 5 [(0, .ref (ad 5)), (1, .int (nI q)), (2, .int (-1)), (3, .int (countF (I 21) (vM I) p q)), (4, .int (nI p))] [] I J := by
    intro k
    induction k with
    | zero => exact fun _  _ h => absurd h (Nat.not_lt_zero _)
    | succ k ihL =>
      intro p  hpn hpk
      refine wl_iload hX 4 rfl dX5_others_5 ?_
      refine wl_aload_n hX 0 rfl dX5_others_7 ?_
      refine gf_X5_0 hX tb_500 dX5_others_8 ?_
      refine wl_eqi (y := nI P) hP ?_
      refine wl_icmp_ge hX (tgt := 55) dX5_others_11 (by decide) (fun hpc => ?_) (fun hpc => ?_)
      · have hpe : p = P := by
          have h9 := (nI_leI (by omega) (by omega)).mp hpc
          omega
        refine wl_iload_n hX 3 rfl dX5_others_55 ?_
        exact wl_ireturn hT dX5_others_56 (hx_ri (by rw [hpe]))
      · have hp1 : p < P := Nat.lt_of_not_le (fun z => hpc ((nI_leI (by omega) (by omega)).mpr z))
        refine wl_iload_n hX 3 rfl dX5_others_14 ?_
        refine wl_aload_n hX 0 rfl dX5_others_15 ?_
        refine gf_X5_5 hX tb_505 dX5_others_16 ?_
        refine wl_iload hX 4 rfl dX5_others_19 ?_
        refine wl_zald hX p kc_21 rfl (by omega) dX5_others_21 ?_
        refine wl_if_eq hX (tgt := 46) dX5_others_22 (by decide) (fun h2 => ?_) (fun h2 => ?_)
        · have e2 : countF (I 21) (vM I) (p + 1) q = countF (I 21) (vM I) p q + (if I 21 p = 0 then (0 : Int32) else vM I p q) := rfl
          rw [if_pos (h2)] at e2
          refine wl_iconst hX (v := 0) dX5_others_46 (by decide) ?_
          refine wl_iadd hX dX5_others_47 ?_
          refine wl_eqi (y := countF (I 21) (vM I) (p + 1) q) e2.symm ?_
          refine wl_istore_n hX (lv' := [(3, .int (countF (I 21) (vM I) (p + 1) q)), (0, .ref (ad 5)), (1, .int (nI q)), (2, .int (-1)), (4, .int (nI p))]) rfl (by decide) dX5_others_48 ?_
          refine wl_iinc hX (v := nI (p + 1)) (lv' := [(4, .int (nI (p + 1))), (3, .int (countF (I 21) (vM I) (p + 1) q)), (0, .ref (ad 5)), (1, .int (nI q)), (2, .int (-1))]) 4 rfl (nI_1 _) rfl (by decide) dX5_others_49 ?_
          refine wl_goto hX (tgt := 5) dX5_others_52 (by decide) ?_
          refine wl_sub hX [2, 3, 4, 1, 0] rfl ?_
          exact ihL (p + 1) (by omega) (by omega)
        · refine wl_iload hX 4 rfl dX5_others_25 ?_
          refine wl_iload_n hX 2 rfl dX5_others_27 ?_
          refine wl_icmp_eq hX (tgt := 46) dX5_others_28 (by decide) (fun h3 => absurd h3 (nI_nm1 (by omega))) (fun h3 => ?_)
          have e2 : countF (I 21) (vM I) (p + 1) q = countF (I 21) (vM I) p q + (if I 21 p = 0 then (0 : Int32) else vM I p q) := rfl
          rw [if_neg h2] at e2
          refine wl_aload_n hX 0 rfl dX5_others_31 ?_
          refine gf_X5_6 hX tb_506 dX5_others_32 ?_
          refine wl_bipush hX (v := 6) dX5_others_35 (by decide) ?_
          refine wl_iload hX 4 rfl dX5_others_37 ?_
          refine wl_imul hX dX5_others_39 ?_
          refine wl_iload_n hX 1 rfl dX5_others_40 ?_
          refine wl_iadd hX dX5_others_41 ?_
          refine wl_iald hX (6 * p + q) kc_22 (hx_ix6 p q) (by omega) dX5_others_42 ?_
          refine wl_goto hX (tgt := 47) dX5_others_43 (by decide) ?_
          refine wl_iadd hX dX5_others_47 ?_
          refine wl_eqi (y := countF (I 21) (vM I) (p + 1) q) e2.symm ?_
          refine wl_istore_n hX (lv' := [(3, .int (countF (I 21) (vM I) (p + 1) q)), (0, .ref (ad 5)), (1, .int (nI q)), (2, .int (-1)), (4, .int (nI p))]) rfl (by decide) dX5_others_48 ?_
          refine wl_iinc hX (v := nI (p + 1)) (lv' := [(4, .int (nI (p + 1))), (3, .int (countF (I 21) (vM I) (p + 1) q)), (0, .ref (ad 5)), (1, .int (nI q)), (2, .int (-1))]) 4 rfl (nI_1 _) rfl (by decide) dX5_others_49 ?_
          refine wl_goto hX (tgt := 5) dX5_others_52 (by decide) ?_
          refine wl_sub hX [2, 3, 4, 1, 0] rfl ?_
          exact ihL (p + 1) (by omega) (by omega)
  exact L (P + 1) 0 (by omega) (by omega)

set_option maxHeartbeats 400000 in
theorem c_X5_others {l : Launch} {D : va_G} {ad : Nat → Nat} {cy : Nat → ClassId} (hi : hx_inj ad) (I : MI) (J : MJ) (q : Nat) (hq : q < 6) (P : Nat) (hP : I 5 0 = nI P) (hP12 : P ≤ 12) (b : Nat) (hb : b < P) : Ct l D ad cy yX5_others cX5_others 5 (some .int) 0 [.ref (ad 5), .int (nI q), .int (nI b)] I J (hx_is (some (.int (lessF (I 21) (vM I) P b q))) I J) := by
  refine ct_start hi (by decide +kernel) (Nat.le_of_ble_eq_true rfl) (fun X hX hT => ?_)
  show X 0 [(0, .ref (ad 5)), (1, .int (nI q)), (2, .int (nI b))] [] I J
  refine wl_iconst hX (v := 0) dX5_others_0 (by decide) ?_
  refine wl_istore_n hX (lv' := [(3, .int 0), (0, .ref (ad 5)), (1, .int (nI q)), (2, .int (nI b))]) rfl (by decide) dX5_others_1 ?_
  refine wl_iconst hX (v := 0) dX5_others_2 (by decide) ?_
  refine wl_istore hX (lv' := [(4, .int 0), (3, .int 0), (0, .ref (ad 5)), (1, .int (nI q)), (2, .int (nI b))]) rfl (by decide) dX5_others_3 ?_
  refine wl_sub hX [2, 3, 4, 1, 0] rfl ?_
  have L : ∀ (k p : Nat), p ≤ P → P - p < k → X 5 [(0, .ref (ad 5)), (1, .int (nI q)), (2, .int (nI b)), (3, .int (othF (I 21) (vM I) b q p)), (4, .int (nI p))] [] I J := by
    intro k
    induction k with
    | zero => exact fun _  _ h => absurd h (Nat.not_lt_zero _)
    | succ k ihL =>
      intro p  hpn hpk
      refine wl_iload hX 4 rfl dX5_others_5 ?_
      refine wl_aload_n hX 0 rfl dX5_others_7 ?_
      refine gf_X5_0 hX tb_500 dX5_others_8 ?_
      refine wl_eqi (y := nI P) hP ?_
      refine wl_icmp_ge hX (tgt := 55) dX5_others_11 (by decide) (fun hpc => ?_) (fun hpc => ?_)
      · have hpe : p = P := by
          have h9 := (nI_leI (by omega) (by omega)).mp hpc
          omega
        refine wl_iload_n hX 3 rfl dX5_others_55 ?_
        exact wl_ireturn hT dX5_others_56 (hx_ri (by rw [hpe]; exact oth_less _ _ _ _ _ hb))
      · have hp1 : p < P := Nat.lt_of_not_le (fun z => hpc ((nI_leI (by omega) (by omega)).mpr z))
        refine wl_iload_n hX 3 rfl dX5_others_14 ?_
        refine wl_aload_n hX 0 rfl dX5_others_15 ?_
        refine gf_X5_5 hX tb_505 dX5_others_16 ?_
        refine wl_iload hX 4 rfl dX5_others_19 ?_
        refine wl_zald hX p kc_21 rfl (by omega) dX5_others_21 ?_
        refine wl_if_eq hX (tgt := 46) dX5_others_22 (by decide) (fun h2 => ?_) (fun h2 => ?_)
        · have e2 : othF (I 21) (vM I) b q (p + 1) = othF (I 21) (vM I) b q p + (if I 21 p = 0 ∨ p = b then (0 : Int32) else vM I p q) := rfl
          rw [if_pos (Or.inl h2)] at e2
          refine wl_iconst hX (v := 0) dX5_others_46 (by decide) ?_
          refine wl_iadd hX dX5_others_47 ?_
          refine wl_eqi (y := othF (I 21) (vM I) b q (p + 1)) e2.symm ?_
          refine wl_istore_n hX (lv' := [(3, .int (othF (I 21) (vM I) b q (p + 1))), (0, .ref (ad 5)), (1, .int (nI q)), (2, .int (nI b)), (4, .int (nI p))]) rfl (by decide) dX5_others_48 ?_
          refine wl_iinc hX (v := nI (p + 1)) (lv' := [(4, .int (nI (p + 1))), (3, .int (othF (I 21) (vM I) b q (p + 1))), (0, .ref (ad 5)), (1, .int (nI q)), (2, .int (nI b))]) 4 rfl (nI_1 _) rfl (by decide) dX5_others_49 ?_
          refine wl_goto hX (tgt := 5) dX5_others_52 (by decide) ?_
          refine wl_sub hX [2, 3, 4, 1, 0] rfl ?_
          exact ihL (p + 1) (by omega) (by omega)
        · refine wl_iload hX 4 rfl dX5_others_25 ?_
          refine wl_iload_n hX 2 rfl dX5_others_27 ?_
          refine wl_icmp_eq hX (tgt := 46) dX5_others_28 (by decide) (fun h3 => ?_) (fun h3 => ?_)
          · have e2 : othF (I 21) (vM I) b q (p + 1) = othF (I 21) (vM I) b q p + (if I 21 p = 0 ∨ p = b then (0 : Int32) else vM I p q) := rfl
            rw [if_pos (Or.inr ((nI_eq (by omega) (by omega)).mp h3))] at e2
            refine wl_iconst hX (v := 0) dX5_others_46 (by decide) ?_
            refine wl_iadd hX dX5_others_47 ?_
            refine wl_eqi (y := othF (I 21) (vM I) b q (p + 1)) e2.symm ?_
            refine wl_istore_n hX (lv' := [(3, .int (othF (I 21) (vM I) b q (p + 1))), (0, .ref (ad 5)), (1, .int (nI q)), (2, .int (nI b)), (4, .int (nI p))]) rfl (by decide) dX5_others_48 ?_
            refine wl_iinc hX (v := nI (p + 1)) (lv' := [(4, .int (nI (p + 1))), (3, .int (othF (I 21) (vM I) b q (p + 1))), (0, .ref (ad 5)), (1, .int (nI q)), (2, .int (nI b))]) 4 rfl (nI_1 _) rfl (by decide) dX5_others_49 ?_
            refine wl_goto hX (tgt := 5) dX5_others_52 (by decide) ?_
            refine wl_sub hX [2, 3, 4, 1, 0] rfl ?_
            exact ihL (p + 1) (by omega) (by omega)
          · have e2 : othF (I 21) (vM I) b q (p + 1) = othF (I 21) (vM I) b q p + (if I 21 p = 0 ∨ p = b then (0 : Int32) else vM I p q) := rfl
            rw [if_neg (fun z => z.elim h2 (fun y => h3 ((nI_eq (by omega) (by omega)).mpr y)))] at e2
            refine wl_aload_n hX 0 rfl dX5_others_31 ?_
            refine gf_X5_6 hX tb_506 dX5_others_32 ?_
            refine wl_bipush hX (v := 6) dX5_others_35 (by decide) ?_
            refine wl_iload hX 4 rfl dX5_others_37 ?_
            refine wl_imul hX dX5_others_39 ?_
            refine wl_iload_n hX 1 rfl dX5_others_40 ?_
            refine wl_iadd hX dX5_others_41 ?_
            refine wl_iald hX (6 * p + q) kc_22 (hx_ix6 p q) (by omega) dX5_others_42 ?_
            refine wl_goto hX (tgt := 47) dX5_others_43 (by decide) ?_
            refine wl_iadd hX dX5_others_47 ?_
            refine wl_eqi (y := othF (I 21) (vM I) b q (p + 1)) e2.symm ?_
            refine wl_istore_n hX (lv' := [(3, .int (othF (I 21) (vM I) b q (p + 1))), (0, .ref (ad 5)), (1, .int (nI q)), (2, .int (nI b)), (4, .int (nI p))]) rfl (by decide) dX5_others_48 ?_
            refine wl_iinc hX (v := nI (p + 1)) (lv' := [(4, .int (nI (p + 1))), (3, .int (othF (I 21) (vM I) b q (p + 1))), (0, .ref (ad 5)), (1, .int (nI q)), (2, .int (nI b))]) 4 rfl (nI_1 _) rfl (by decide) dX5_others_49 ?_
            refine wl_goto hX (tgt := 5) dX5_others_52 (by decide) ?_
            refine wl_sub hX [2, 3, 4, 1, 0] rfl ?_
            exact ihL (p + 1) (by omega) (by omega)
  exact L (P + 1) 0 (by omega) (by omega)

set_option maxHeartbeats 400000 in
theorem c_X5_resultOf {l : Launch} {D : va_G} {ad : Nat → Nat} {cy : Nat → ClassId} (hi : hx_inj ad) (I : MI) (J : MJ) (q : Nat) (c : Int32) (hq : q < 6) : Ct l D ad cy yX5_resultOf cX5_resultOf 5 (some .int) 0 [.ref (ad 5), .int (nI q), .int c] I J (hx_is (some (.int (resF (I 5 3) q c))) I J) := by
  refine ct_start hi (by decide +kernel) (Nat.le_of_ble_eq_true rfl) (fun X hX hT => ?_)
  show X 0 [(0, .ref (ad 5)), (1, .int (nI q)), (2, .int c)] [] I J
  refine wl_iload_n hX 2 rfl dX5_resultOf_0 ?_
  refine wl_if_eq hX (tgt := 14) dX5_resultOf_1 (by decide) (fun h1 => ?_) (fun h1 => ?_)
  · refine wl_aload_n hX 0 rfl dX5_resultOf_14 ?_
    refine gf_X5_3 hX tb_503 dX5_resultOf_15 ?_
    refine wl_istore_n hX (lv' := [(3, .int (I 5 3)), (0, .ref (ad 5)), (1, .int (nI q)), (2, .int c)]) rfl (by decide) dX5_resultOf_18 ?_
    refine wl_iconst hX (v := 0) dX5_resultOf_19 (by decide) ?_
    refine wl_istore hX (lv' := [(4, .int 0), (3, .int (I 5 3)), (0, .ref (ad 5)), (1, .int (nI q)), (2, .int c)]) rfl (by decide) dX5_resultOf_20 ?_
    refine wl_sub hX [2, 3, 4, 1, 0] rfl ?_
    have L : ∀ (k i : Nat), i ≤ (q + 1) → (q + 1) - i < k → X 22 [(0, .ref (ad 5)), (1, .int (nI q)), (2, .int c), (3, .int (lotF (I 5 3) i)), (4, .int (nI i))] [] I J := by
      intro k
      induction k with
      | zero => exact fun _  _ h => absurd h (Nat.not_lt_zero _)
      | succ k ihL =>
        intro i  hin hik
        refine wl_iload hX 4 rfl dX5_resultOf_22 ?_
        refine wl_iload_n hX 1 rfl dX5_resultOf_24 ?_
        refine wl_icmp_gt hX (tgt := 42) dX5_resultOf_25 (by decide) (fun hic => ?_) (fun hic => ?_)
        · have hie : i = q + 1 := by
            have h9 := (nI_ltI (by omega) (by omega)).mp hic
            omega
          refine wl_iload_n hX 3 rfl dX5_resultOf_42 ?_
          refine wl_bipush hX (v := 20) dX5_resultOf_43 (by decide) ?_
          refine wl_ishr hX dX5_resultOf_45 ?_
          refine wl_iconst hX (v := 1) dX5_resultOf_46 (by decide) ?_
          refine wl_iand hX dX5_resultOf_47 ?_
          refine wl_eqi (y := bitC (lotF (I 5 3) i)) (bit_eq _) ?_
          refine wl_iconst hX (v := 1) dX5_resultOf_48 (by decide) ?_
          refine wl_icmp_ne hX (tgt := 56) dX5_resultOf_49 (by decide) (fun h5 => ?_) (fun h5 => ?_)
          · refine wl_iconst hX (v := (-1)) dX5_resultOf_56 (by decide) ?_
            exact wl_ireturn hT dX5_resultOf_57 (hx_ri (by unfold resF; rw [if_pos h1, if_neg (by rw [← hie]; exact h5)]))
          · refine wl_iconst hX (v := 1) dX5_resultOf_52 (by decide) ?_
            refine wl_goto hX (tgt := 57) dX5_resultOf_53 (by decide) ?_
            exact wl_ireturn hT dX5_resultOf_57 (hx_ri (by unfold resF; rw [if_pos h1, if_pos (by rw [← hie]; exact h5)]))
        · have hi1 : i ≤ q := Nat.le_of_not_lt (fun z => hic ((nI_ltI (by omega) (by omega)).mpr z))
          refine wl_iload_n hX 3 rfl dX5_resultOf_28 ?_
          refine wl_ldc hX tb_643 dX5_resultOf_29 ?_
          refine wl_imul hX dX5_resultOf_31 ?_
          refine wl_ldc hX tb_644 dX5_resultOf_32 ?_
          refine wl_iadd hX dX5_resultOf_34 ?_
          refine wl_istore_n hX (lv' := [(3, .int (((lotF (I 5 3) i) * 1664525) + 1013904223)), (0, .ref (ad 5)), (1, .int (nI q)), (2, .int c), (4, .int (nI i))]) rfl (by decide) dX5_resultOf_35 ?_
          refine wl_iinc hX (v := nI (i + 1)) (lv' := [(4, .int (nI (i + 1))), (3, .int (((lotF (I 5 3) i) * 1664525) + 1013904223)), (0, .ref (ad 5)), (1, .int (nI q)), (2, .int c)]) 4 rfl (nI_1 _) rfl (by decide) dX5_resultOf_36 ?_
          refine wl_goto hX (tgt := 22) dX5_resultOf_39 (by decide) ?_
          refine wl_sub hX [2, 3, 4, 1, 0] rfl ?_
          exact ihL (i + 1) (by omega) (by omega)
    exact L (q + 1 + 1) 0 (by omega) (by omega)
  · refine wl_iload_n hX 2 rfl dX5_resultOf_4 ?_
    refine wl_if_le hX (tgt := 12) dX5_resultOf_5 (by decide) (fun h2 => ?_) (fun h2 => ?_)
    · refine wl_iconst hX (v := (-1)) dX5_resultOf_12 (by decide) ?_
      exact wl_ireturn hT dX5_resultOf_13 (hx_ri (by unfold resF; rw [if_neg h1, if_neg (fun h => by rw [Int32.lt_iff_toInt_lt] at h; rw [Int32.le_iff_toInt_le] at h2; omega)]))
    · refine wl_iconst hX (v := 1) dX5_resultOf_8 (by decide) ?_
      refine wl_goto hX (tgt := 13) dX5_resultOf_9 (by decide) ?_
      exact wl_ireturn hT dX5_resultOf_13 (hx_ri (by unfold resF; rw [if_neg h1, if_pos (by rw [Int32.le_iff_toInt_le] at h2; rw [Int32.lt_iff_toInt_lt]; omega)]))

set_option maxHeartbeats 400000 in
theorem c_X5_gainBy {l : Launch} {D : va_G} {ad : Nat → Nat} {cy : Nat → ClassId} (hi : hx_inj ad) (I : MI) (J : MJ) (w c : Int32) : Ct l D ad cy yX5_gainBy cX5_gainBy 2 (some .int) 0 [.int w, .int c] I J (hx_is (some (.int (gByF c w))) I J) := by
  refine ct_start hi (by decide +kernel) (Nat.le_of_ble_eq_true rfl) (fun X hX hT => ?_)
  show X 0 [(0, .int w), (1, .int c)] [] I J
  refine wl_iload_n hX 1 rfl dX5_gainBy_0 ?_
  refine wl_if_le hX (tgt := 10) dX5_gainBy_1 (by decide) (fun h1 => ?_) (fun h1 => ?_)
  · refine wl_iload_n hX 1 rfl dX5_gainBy_10 ?_
    refine wl_if_ne hX (tgt := 18) dX5_gainBy_11 (by decide) (fun h2 => ?_) (fun h2 => ?_)
    · have k : ¬ 0 ≤ c := fun z => h2 (by rw [← Int32.toInt_inj]; rw [Int32.le_iff_toInt_le] at z h1; omega)
      refine wl_iconst hX (v := 0) dX5_gainBy_18 (by decide) ?_
      exact wl_ireturn hT dX5_gainBy_19 (hx_ri (by unfold gByF; rw [if_neg k]))
    · refine wl_iload_n hX 0 rfl dX5_gainBy_14 ?_
      refine wl_goto hX (tgt := 19) dX5_gainBy_15 (by decide) ?_
      exact wl_ireturn hT dX5_gainBy_19 (hx_ri (by unfold gByF; rw [if_pos (by rw [h2]; decide), if_pos h2]))
  · have k1 : 0 ≤ c := by rw [Int32.le_iff_toInt_le]; rw [Int32.le_iff_toInt_le] at h1; omega
    have k2 : ¬ c = 0 := fun z => h1 (by rw [z]; decide)
    refine wl_iconst hX (v := 2) dX5_gainBy_4 (by decide) ?_
    refine wl_iload_n hX 0 rfl dX5_gainBy_5 ?_
    refine wl_imul hX dX5_gainBy_6 ?_
    refine wl_goto hX (tgt := 19) dX5_gainBy_7 (by decide) ?_
    exact wl_ireturn hT dX5_gainBy_19 (hx_ri (by unfold gByF; rw [if_pos k1, if_neg k2]))

set_option maxHeartbeats 400000 in
theorem c_X5_gainOf {l : Launch} {D : va_G} {ad : Nat → Nat} {cy : Nat → ClassId} (hi : hx_inj ad) (I : MI) (J : MJ) (p : Nat) (hp : p < 12) (P : Nat) (hP : I 5 0 = nI P) (hP12 : P ≤ 12) (Q : Nat) (hQ : I 5 1 = nI Q) (hQ6 : Q ≤ 6) : Ct l D ad cy yX5_gainOf cX5_gainOf 4 (some .int) 1 [.ref (ad 5), .int (nI p)] I J (hx_is (some (.int (gainF (I 21) (vM I) (wM I) P Q p))) I J) := by
  refine ct_start hi (by decide +kernel) (Nat.le_of_ble_eq_true rfl) (fun X hX hT => ?_)
  show X 0 [(0, .ref (ad 5)), (1, .int (nI p))] [] I J
  refine wl_iconst hX (v := 0) dX5_gainOf_0 (by decide) ?_
  refine wl_istore_n hX (lv' := [(2, .int 0), (0, .ref (ad 5)), (1, .int (nI p))]) rfl (by decide) dX5_gainOf_1 ?_
  refine wl_iconst hX (v := 0) dX5_gainOf_2 (by decide) ?_
  refine wl_istore_n hX (lv' := [(3, .int 0), (2, .int 0), (0, .ref (ad 5)), (1, .int (nI p))]) rfl (by decide) dX5_gainOf_3 ?_
  refine wl_sub hX [2, 3, 1, 0] rfl ?_
  have L : ∀ (k q : Nat), q ≤ Q → Q - q < k → X 4 [(0, .ref (ad 5)), (1, .int (nI p)), (2, .int (gainF (I 21) (vM I) (wM I) P q p)), (3, .int (nI q))] [] I J := by
    intro k
    induction k with
    | zero => exact fun _  _ h => absurd h (Nat.not_lt_zero _)
    | succ k ihL =>
      intro q  hqn hqk
      refine wl_iload_n hX 3 rfl dX5_gainOf_4 ?_
      refine wl_aload_n hX 0 rfl dX5_gainOf_5 ?_
      refine gf_X5_1 hX tb_501 dX5_gainOf_6 ?_
      refine wl_eqi (y := nI Q) hQ ?_
      refine wl_icmp_ge hX (tgt := 41) dX5_gainOf_9 (by decide) (fun hqc => ?_) (fun hqc => ?_)
      · have hqe : q = Q := by
          have h9 := (nI_leI (by omega) (by omega)).mp hqc
          omega
        refine wl_iload_n hX 2 rfl dX5_gainOf_41 ?_
        exact wl_ireturn hT dX5_gainOf_42 (hx_ri (by rw [hqe]))
      · have hq1 : q < Q := Nat.lt_of_not_le (fun z => hqc ((nI_leI (by omega) (by omega)).mpr z))
        refine wl_iload_n hX 2 rfl dX5_gainOf_12 ?_
        refine wl_aload_n hX 0 rfl dX5_gainOf_13 ?_
        refine gf_X5_7 hX tb_507 dX5_gainOf_14 ?_
        refine wl_bipush hX (v := 6) dX5_gainOf_17 (by decide) ?_
        refine wl_iload_n hX 1 rfl dX5_gainOf_19 ?_
        refine wl_imul hX dX5_gainOf_20 ?_
        refine wl_iload_n hX 3 rfl dX5_gainOf_21 ?_
        refine wl_iadd hX dX5_gainOf_22 ?_
        refine wl_iald hX (6 * p + q) kc_23 (hx_ix6 p q) (by omega) dX5_gainOf_23 ?_
        refine wl_aload_n hX 0 rfl dX5_gainOf_24 ?_
        refine wl_iload_n hX 3 rfl dX5_gainOf_25 ?_
        refine wl_iconst hX (v := (-1)) dX5_gainOf_26 (by decide) ?_
        refine wl_cVi hX (c_X5_others_all hi I J q (by omega) P hP hP12) mv_X5_others tb_631 (by decide) rfl rfl rfl rfl (by omega) (Nat.le_of_ble_eq_true rfl) dX5_gainOf_27 ?_
        refine wl_cSi hX (c_X5_gainBy hi I J (I 23 (6 * p + q)) (countF (I 21) (vM I) P q)) mv_X5_gainBy tb_653 rfl rfl (by omega) (Nat.le_of_ble_eq_true rfl) dX5_gainOf_30 ?_
        refine wl_iadd hX dX5_gainOf_33 ?_
        refine wl_eqi (y := gainF (I 21) (vM I) (wM I) P (q + 1) p) rfl ?_
        refine wl_istore_n hX (lv' := [(2, .int (gainF (I 21) (vM I) (wM I) P (q + 1) p)), (0, .ref (ad 5)), (1, .int (nI p)), (3, .int (nI q))]) rfl (by decide) dX5_gainOf_34 ?_
        refine wl_iinc hX (v := nI (q + 1)) (lv' := [(3, .int (nI (q + 1))), (2, .int (gainF (I 21) (vM I) (wM I) P (q + 1) p)), (0, .ref (ad 5)), (1, .int (nI p))]) 3 rfl (nI_1 _) rfl (by decide) dX5_gainOf_35 ?_
        refine wl_goto hX (tgt := 4) dX5_gainOf_38 (by decide) ?_
        refine wl_sub hX [2, 3, 1, 0] rfl ?_
        exact ihL (q + 1) (by omega) (by omega)
  exact L (Q + 1) 0 (by omega) (by omega)

set_option maxHeartbeats 400000 in
theorem c_X5_likenessOf {l : Launch} {D : va_G} {ad : Nat → Nat} {cy : Nat → ClassId} (hi : hx_inj ad) (I : MI) (J : MJ) (p r : Nat) (hp : p < 12) (hr : r < 12) (Q : Nat) (hQ : I 5 1 = nI Q) (hQ6 : Q ≤ 6) : Ct l D ad cy yX5_likenessOf cX5_likenessOf 8 (some .int) 1 [.ref (ad 5), .int (nI p), .int (nI r)] I J (hx_is (some (.int (likeF (vM I) Q p r))) I J) := by
  refine ct_start hi (by decide +kernel) (Nat.le_of_ble_eq_true rfl) (fun X hX hT => ?_)
  show X 0 [(0, .ref (ad 5)), (1, .int (nI p)), (2, .int (nI r))] [] I J
  refine wl_lconst hX (v := 0) dX5_likenessOf_0 (by decide) ?_
  refine wl_lstore_n hX (lv' := [(3, .long 0), (0, .ref (ad 5)), (1, .int (nI p)), (2, .int (nI r))]) rfl (by decide) dX5_likenessOf_1 ?_
  refine wl_iconst hX (v := 0) dX5_likenessOf_2 (by decide) ?_
  refine wl_istore hX (lv' := [(5, .int 0), (3, .long 0), (0, .ref (ad 5)), (1, .int (nI p)), (2, .int (nI r))]) rfl (by decide) dX5_likenessOf_3 ?_
  refine wl_sub hX [2, 3, 4, 1, 0] rfl ?_
  have L : ∀ (k q : Nat), q ≤ Q → Q - q < k → X 5 [(0, .ref (ad 5)), (1, .int (nI p)), (2, .int (nI r)), (3, .long (dotF (vM I) q p r)), (5, .int (nI q))] [] I J := by
    intro k
    induction k with
    | zero => exact fun _  _ h => absurd h (Nat.not_lt_zero _)
    | succ k ihL =>
      intro q  hqn hqk
      refine wl_iload hX 4 rfl dX5_likenessOf_5 ?_
      refine wl_aload_n hX 0 rfl dX5_likenessOf_7 ?_
      refine gf_X5_1 hX tb_501 dX5_likenessOf_8 ?_
      refine wl_eqi (y := nI Q) hQ ?_
      refine wl_icmp_ge hX (tgt := 49) dX5_likenessOf_11 (by decide) (fun hqc => ?_) (fun hqc => ?_)
      · have hqe : q = Q := by
          have h9 := (nI_leI (by omega) (by omega)).mp hqc
          omega
        rw [hqe]
        refine wl_aload_n hX 0 rfl dX5_likenessOf_49 ?_
        refine wl_iload_n hX 1 rfl dX5_likenessOf_50 ?_
        refine wl_cVi hX (c_X5_costOf hi I J p hp Q hQ hQ6) mv_X5_costOf tb_607 (by decide) rfl rfl rfl rfl (by omega) (Nat.le_of_ble_eq_true rfl) dX5_likenessOf_51 ?_
        refine wl_i2l hX (v := (costF (vM I) Q p).toInt64) dX5_likenessOf_54 rfl ?_
        refine wl_aload_n hX 0 rfl dX5_likenessOf_55 ?_
        refine wl_iload_n hX 2 rfl dX5_likenessOf_56 ?_
        refine wl_cVi hX (c_X5_costOf hi I J r hr Q hQ hQ6) mv_X5_costOf tb_607 (by decide) rfl rfl rfl rfl (by omega) (Nat.le_of_ble_eq_true rfl) dX5_likenessOf_57 ?_
        refine wl_i2l hX (v := (costF (vM I) Q r).toInt64) dX5_likenessOf_60 rfl ?_
        refine wl_lmul hX dX5_likenessOf_61 ?_
        refine wl_lstore hX (lv' := [(5, .long (((costF (vM I) Q p).toInt64) * ((costF (vM I) Q r).toInt64))), (0, .ref (ad 5)), (1, .int (nI p)), (2, .int (nI r)), (3, .long (dotF (vM I) Q p r))]) rfl (by decide) dX5_likenessOf_62 ?_
        refine wl_lload hX 0 rfl dX5_likenessOf_64 ?_
        refine wl_lconst hX (v := 0) dX5_likenessOf_66 (by decide) ?_
        refine wl_lif_ne hX (tgt := 75) dX5_likenessOf_67 dX5_likenessOf_68 (by decide) (fun h1 => ?_) (fun h1 => ?_)
        · refine wl_lload_n hX 4 rfl dX5_likenessOf_75 ?_
          refine wl_lload_n hX 4 rfl dX5_likenessOf_76 ?_
          refine wl_lmul hX dX5_likenessOf_77 ?_
          refine wl_ldc2 hX tb_732 dX5_likenessOf_78 ?_
          refine wl_lmul hX dX5_likenessOf_81 ?_
          refine wl_lload hX 0 rfl dX5_likenessOf_82 ?_
          refine wl_ldiv hX dX5_likenessOf_84 h1 ?_
          refine wl_l2i hX (v := ((((dotF (vM I) Q p r) * (dotF (vM I) Q p r)) * 1000) / (((costF (vM I) Q p).toInt64) * ((costF (vM I) Q r).toInt64))).toInt32) dX5_likenessOf_85 rfl ?_
          refine wl_istore hX (lv' := [(7, .int (((((dotF (vM I) Q p r) * (dotF (vM I) Q p r)) * 1000) / (((costF (vM I) Q p).toInt64) * ((costF (vM I) Q r).toInt64))).toInt32)), (5, .long (((costF (vM I) Q p).toInt64) * ((costF (vM I) Q r).toInt64))), (0, .ref (ad 5)), (1, .int (nI p)), (2, .int (nI r)), (3, .long (dotF (vM I) Q p r))]) rfl (by decide) dX5_likenessOf_86 ?_
          refine wl_lload_n hX 5 rfl dX5_likenessOf_88 ?_
          refine wl_lconst hX (v := 0) dX5_likenessOf_89 (by decide) ?_
          refine wl_lif_ge hX (tgt := 100) dX5_likenessOf_90 dX5_likenessOf_91 (by decide) (fun h5 => ?_) (fun h5 => ?_)
          · refine wl_iload hX 0 rfl dX5_likenessOf_100 ?_
            exact wl_ireturn hT dX5_likenessOf_102 (hx_ri (by unfold likeF; rw [if_neg h1, if_pos h5]))
          · refine wl_iload hX 0 rfl dX5_likenessOf_94 ?_
            refine wl_ineg hX dX5_likenessOf_96 ?_
            refine wl_goto hX (tgt := 102) dX5_likenessOf_97 (by decide) ?_
            exact wl_ireturn hT dX5_likenessOf_102 (hx_ri (by unfold likeF; rw [if_neg h1, if_neg h5]))
        · refine wl_sipush hX (v := (-2000)) dX5_likenessOf_71 (by decide) ?_
          exact wl_ireturn hT dX5_likenessOf_74 (hx_ri (by unfold likeF; rw [if_pos h1]))
      · have hq1 : q < Q := Nat.lt_of_not_le (fun z => hqc ((nI_leI (by omega) (by omega)).mpr z))
        refine wl_lload_n hX 3 rfl dX5_likenessOf_14 ?_
        refine wl_aload_n hX 0 rfl dX5_likenessOf_15 ?_
        refine gf_X5_6 hX tb_506 dX5_likenessOf_16 ?_
        refine wl_bipush hX (v := 6) dX5_likenessOf_19 (by decide) ?_
        refine wl_iload_n hX 1 rfl dX5_likenessOf_21 ?_
        refine wl_imul hX dX5_likenessOf_22 ?_
        refine wl_iload hX 4 rfl dX5_likenessOf_23 ?_
        refine wl_iadd hX dX5_likenessOf_25 ?_
        refine wl_iald hX (6 * p + q) kc_22 (hx_ix6 p q) (by omega) dX5_likenessOf_26 ?_
        refine wl_aload_n hX 0 rfl dX5_likenessOf_27 ?_
        refine gf_X5_6 hX tb_506 dX5_likenessOf_28 ?_
        refine wl_bipush hX (v := 6) dX5_likenessOf_31 (by decide) ?_
        refine wl_iload_n hX 2 rfl dX5_likenessOf_33 ?_
        refine wl_imul hX dX5_likenessOf_34 ?_
        refine wl_iload hX 4 rfl dX5_likenessOf_35 ?_
        refine wl_iadd hX dX5_likenessOf_37 ?_
        refine wl_iald hX (6 * r + q) kc_22 (hx_ix6 r q) (by omega) dX5_likenessOf_38 ?_
        refine wl_imul hX dX5_likenessOf_39 ?_
        refine wl_i2l hX (v := ((I 22 (6 * p + q)) * (I 22 (6 * r + q))).toInt64) dX5_likenessOf_40 rfl ?_
        refine wl_ladd hX dX5_likenessOf_41 ?_
        refine wl_lstore_n hX (lv' := [(3, .long ((dotF (vM I) q p r) + (((I 22 (6 * p + q)) * (I 22 (6 * r + q))).toInt64))), (0, .ref (ad 5)), (1, .int (nI p)), (2, .int (nI r)), (5, .int (nI q))]) rfl (by decide) dX5_likenessOf_42 ?_
        refine wl_iinc hX (v := nI (q + 1)) (lv' := [(5, .int (nI (q + 1))), (3, .long ((dotF (vM I) q p r) + (((I 22 (6 * p + q)) * (I 22 (6 * r + q))).toInt64))), (0, .ref (ad 5)), (1, .int (nI p)), (2, .int (nI r))]) 4 rfl (nI_1 _) rfl (by decide) dX5_likenessOf_43 ?_
        refine wl_goto hX (tgt := 5) dX5_likenessOf_46 (by decide) ?_
        refine wl_sub hX [2, 3, 4, 1, 0] rfl ?_
        exact ihL (q + 1) (by omega) (by omega)
  exact L (Q + 1) 0 (by omega) (by omega)

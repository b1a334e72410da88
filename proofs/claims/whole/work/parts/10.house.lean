/-! the house: its methods' contracts -/
set_option maxHeartbeats 400000 in
theorem c_X1_hasPerson {l : Launch} {D : va_G} {ad : Nat → Nat} {cy : Nat → ClassId} (hi : hx_inj ad) (I : MI) (J : MJ) (x : Int32) : Ct l D ad cy yX1_hasPerson cX1_hasPerson 2 (some .boolean) 0 [.ref (ad 1), .int x] I J (hx_is (some (.int (inF x (I 1 0)))) I J) := by
  refine ct_start hi (by decide +kernel) (Nat.le_of_ble_eq_true rfl) (fun X hX hT => ?_)
  show X 0 [(0, .ref (ad 1)), (1, .int x)] [] I J
  refine wl_iload_n hX 1 rfl dX1_hasPerson_0 ?_
  refine wl_if_lt hX (tgt := 16) dX1_hasPerson_1 (by decide) (fun h1 => ?_) (fun h1 => ?_)
  · refine wl_iconst hX (v := 0) dX1_hasPerson_16 (by decide) ?_
    exact wl_zreturn hT dX1_hasPerson_17 (by decide) (hx_ri (if_neg (fun h => by rw [Int32.lt_iff_toInt_lt] at h1; have h2 := Int32.le_iff_toInt_le.mp h.1; omega)).symm)
  · refine wl_iload_n hX 1 rfl dX1_hasPerson_4 ?_
    refine wl_aload_n hX 0 rfl dX1_hasPerson_5 ?_
    refine gf_X1_0 hX tb_49 dX1_hasPerson_6 ?_
    refine wl_icmp_ge hX (tgt := 16) dX1_hasPerson_9 (by decide) (fun h2 => ?_) (fun h2 => ?_)
    · refine wl_iconst hX (v := 0) dX1_hasPerson_16 (by decide) ?_
      exact wl_zreturn hT dX1_hasPerson_17 (by decide) (hx_ri (if_neg (fun h => by have h3 := Int32.le_iff_toInt_le.mp h2; have h4 := Int32.lt_iff_toInt_lt.mp h.2; omega)).symm)
    · refine wl_iconst hX (v := 1) dX1_hasPerson_12 (by decide) ?_
      refine wl_goto hX (tgt := 17) dX1_hasPerson_13 (by decide) ?_
      exact wl_zreturn hT dX1_hasPerson_17 (by decide) (hx_ri (if_pos ⟨by rw [Int32.le_iff_toInt_le]; rw [Int32.lt_iff_toInt_lt] at h1; omega, by rw [Int32.lt_iff_toInt_lt]; rw [Int32.le_iff_toInt_le] at h2; omega⟩).symm)

set_option maxHeartbeats 400000 in
theorem c_X1_hasQuestion {l : Launch} {D : va_G} {ad : Nat → Nat} {cy : Nat → ClassId} (hi : hx_inj ad) (I : MI) (J : MJ) (x : Int32) : Ct l D ad cy yX1_hasQuestion cX1_hasQuestion 2 (some .boolean) 0 [.ref (ad 1), .int x] I J (hx_is (some (.int (inF x (I 1 1)))) I J) := by
  refine ct_start hi (by decide +kernel) (Nat.le_of_ble_eq_true rfl) (fun X hX hT => ?_)
  show X 0 [(0, .ref (ad 1)), (1, .int x)] [] I J
  refine wl_iload_n hX 1 rfl dX1_hasQuestion_0 ?_
  refine wl_if_lt hX (tgt := 16) dX1_hasQuestion_1 (by decide) (fun h1 => ?_) (fun h1 => ?_)
  · refine wl_iconst hX (v := 0) dX1_hasQuestion_16 (by decide) ?_
    exact wl_zreturn hT dX1_hasQuestion_17 (by decide) (hx_ri (if_neg (fun h => by rw [Int32.lt_iff_toInt_lt] at h1; have h2 := Int32.le_iff_toInt_le.mp h.1; omega)).symm)
  · refine wl_iload_n hX 1 rfl dX1_hasQuestion_4 ?_
    refine wl_aload_n hX 0 rfl dX1_hasQuestion_5 ?_
    refine gf_X1_1 hX tb_55 dX1_hasQuestion_6 ?_
    refine wl_icmp_ge hX (tgt := 16) dX1_hasQuestion_9 (by decide) (fun h2 => ?_) (fun h2 => ?_)
    · refine wl_iconst hX (v := 0) dX1_hasQuestion_16 (by decide) ?_
      exact wl_zreturn hT dX1_hasQuestion_17 (by decide) (hx_ri (if_neg (fun h => by have h3 := Int32.le_iff_toInt_le.mp h2; have h4 := Int32.lt_iff_toInt_lt.mp h.2; omega)).symm)
    · refine wl_iconst hX (v := 1) dX1_hasQuestion_12 (by decide) ?_
      refine wl_goto hX (tgt := 17) dX1_hasQuestion_13 (by decide) ?_
      exact wl_zreturn hT dX1_hasQuestion_17 (by decide) (hx_ri (if_pos ⟨by rw [Int32.le_iff_toInt_le]; rw [Int32.lt_iff_toInt_lt] at h1; omega, by rw [Int32.lt_iff_toInt_lt]; rw [Int32.le_iff_toInt_le] at h2; omega⟩).symm)

set_option maxHeartbeats 400000 in
theorem c_X1_costOf {l : Launch} {D : va_G} {ad : Nat → Nat} {cy : Nat → ClassId} (hi : hx_inj ad) (I : MI) (J : MJ) (p : Nat) (hp : p < 12) (Q : Nat) (hQ : I 1 1 = nI Q) (hQ6 : Q ≤ 6) : Ct l D ad cy yX1_costOf cX1_costOf 4 (some .int) 0 [.ref (ad 1), .int (nI p)] I J (hx_is (some (.int (costF (vC I) Q p))) I J) := by
  refine ct_start hi (by decide +kernel) (Nat.le_of_ble_eq_true rfl) (fun X hX hT => ?_)
  show X 0 [(0, .ref (ad 1)), (1, .int (nI p))] [] I J
  refine wl_iconst hX (v := 0) dX1_costOf_0 (by decide) ?_
  refine wl_istore_n hX (lv' := [(2, .int 0), (0, .ref (ad 1)), (1, .int (nI p))]) rfl (by decide) dX1_costOf_1 ?_
  refine wl_iconst hX (v := 0) dX1_costOf_2 (by decide) ?_
  refine wl_istore_n hX (lv' := [(3, .int 0), (2, .int 0), (0, .ref (ad 1)), (1, .int (nI p))]) rfl (by decide) dX1_costOf_3 ?_
  refine wl_sub hX [2, 3, 1, 0] rfl ?_
  have L : ∀ (k q : Nat), q ≤ Q → Q - q < k → X 4 [(0, .ref (ad 1)), (1, .int (nI p)), (2, .int (sI (fun q => vC I p q * vC I p q) q)), (3, .int (nI q))] [] I J := by
    intro k
    induction k with
    | zero => exact fun _  _ h => absurd h (Nat.not_lt_zero _)
    | succ k ihL =>
      intro q  hqn hqk
      refine wl_iload_n hX 3 rfl dX1_costOf_4 ?_
      refine wl_aload_n hX 0 rfl dX1_costOf_5 ?_
      refine gf_X1_1 hX tb_55 dX1_costOf_6 ?_
      refine wl_eqi (y := nI Q) hQ ?_
      refine wl_icmp_ge hX (tgt := 38) dX1_costOf_9 (by decide) (fun hqc => ?_) (fun hqc => ?_)
      · have hqe : q = Q := by
          have h9 := (nI_leI (by omega) (by omega)).mp hqc
          omega
        refine wl_iload_n hX 2 rfl dX1_costOf_38 ?_
        exact wl_ireturn hT dX1_costOf_39 (hx_ri (by rw [hqe]; rfl))
      · have hq1 : q < Q := Nat.lt_of_not_le (fun z => hqc ((nI_leI (by omega) (by omega)).mpr z))
        refine wl_iload_n hX 2 rfl dX1_costOf_12 ?_
        refine wl_aload_n hX 0 rfl dX1_costOf_13 ?_
        refine gf_X1_5 hX tb_64 dX1_costOf_14 ?_
        refine wl_iload_n hX 1 rfl dX1_costOf_17 ?_
        refine wl_aald4 hX p kc_8 rfl (by omega) dX1_costOf_18 ?_
        refine wl_iload_n hX 3 rfl dX1_costOf_19 ?_
        refine wl_iald hX q (kd_33 (by omega)) rfl (by omega) dX1_costOf_20 ?_
        refine wl_aload_n hX 0 rfl dX1_costOf_21 ?_
        refine gf_X1_5 hX tb_64 dX1_costOf_22 ?_
        refine wl_iload_n hX 1 rfl dX1_costOf_25 ?_
        refine wl_aald4 hX p kc_8 rfl (by omega) dX1_costOf_26 ?_
        refine wl_iload_n hX 3 rfl dX1_costOf_27 ?_
        refine wl_iald hX q (kd_33 (by omega)) rfl (by omega) dX1_costOf_28 ?_
        refine wl_imul hX dX1_costOf_29 ?_
        refine wl_iadd hX dX1_costOf_30 ?_
        refine wl_istore_n hX (lv' := [(2, .int ((sI (fun q => vC I p q * vC I p q) q) + ((I (33 + p) q) * (I (33 + p) q)))), (0, .ref (ad 1)), (1, .int (nI p)), (3, .int (nI q))]) rfl (by decide) dX1_costOf_31 ?_
        refine wl_iinc hX (v := nI (q + 1)) (lv' := [(3, .int (nI (q + 1))), (2, .int ((sI (fun q => vC I p q * vC I p q) q) + ((I (33 + p) q) * (I (33 + p) q)))), (0, .ref (ad 1)), (1, .int (nI p))]) 3 rfl (nI_1 _) rfl (by decide) dX1_costOf_32 ?_
        refine wl_goto hX (tgt := 4) dX1_costOf_35 (by decide) ?_
        refine wl_sub hX [2, 3, 1, 0] rfl ?_
        exact ihL (q + 1) (by omega) (by omega)
  exact L (Q + 1) 0 (by omega) (by omega)

set_option maxHeartbeats 400000 in
theorem c_X1_addPerson {l : Launch} {D : va_G} {ad : Nat → Nat} {cy : Nat → ClassId} (hi : hx_inj ad) (I : MI) (J : MJ) (b : Int32) (P : Nat) (hP : I 1 0 = nI P) (hP12 : P < 12) : Ct l D ad cy yX1_addPerson cX1_addPerson 2 (some .int) 0 [.ref (ad 1), .int b] I J (hx_is (some (.int (nI P))) (hx_u (hx_u (hx_u I 6 P b) 7 P 1) 1 0 (nI (P + 1))) J) := by
  refine ct_start hi (by decide +kernel) (Nat.le_of_ble_eq_true rfl) (fun X hX hT => ?_)
  show X 0 [(0, .ref (ad 1)), (1, .int b)] [] I J
  refine wl_aload_n hX 0 rfl dX1_addPerson_0 ?_
  refine gf_X1_3 hX tb_58 dX1_addPerson_1 ?_
  refine wl_aload_n hX 0 rfl dX1_addPerson_4 ?_
  refine gf_X1_0 hX tb_49 dX1_addPerson_5 ?_
  refine wl_eqi (y := nI P) hP ?_
  refine wl_iload_n hX 1 rfl dX1_addPerson_8 ?_
  refine wl_iast hX P kc_6 rfl (by omega) dX1_addPerson_9 ?_
  refine wl_aload_n hX 0 rfl dX1_addPerson_10 ?_
  refine gf_X1_4 hX tb_61 dX1_addPerson_11 ?_
  refine wl_aload_n hX 0 rfl dX1_addPerson_14 ?_
  refine gf_X1_0 hX tb_49 dX1_addPerson_15 ?_
  refine wl_eqi (y := nI P) hP ?_
  refine wl_iconst hX (v := 1) dX1_addPerson_18 (by decide) ?_
  refine wl_zast hX P kc_7 rfl (by omega) (by decide) dX1_addPerson_19 ?_
  refine wl_aload_n hX 0 rfl dX1_addPerson_20 ?_
  refine wl_dup hX dX1_addPerson_21 rfl ?_
  refine gf_X1_0 hX tb_49 dX1_addPerson_22 ?_
  refine wl_eqi (y := nI P) hP ?_
  refine wl_iconst hX (v := 1) dX1_addPerson_25 (by decide) ?_
  refine wl_iadd hX dX1_addPerson_26 ?_
  refine wl_eqi (y := nI (P + 1)) (nI_1 P) ?_
  refine pf_X1_0 hX tb_49 dX1_addPerson_27 ?_
  refine wl_aload_n hX 0 rfl dX1_addPerson_30 ?_
  refine gf_X1_0 hX tb_49 dX1_addPerson_31 ?_
  refine wl_eqi (y := nI (P + 1)) rfl ?_
  refine wl_iconst hX (v := 1) dX1_addPerson_34 (by decide) ?_
  refine wl_isub hX dX1_addPerson_35 ?_
  refine wl_eqi (y := nI P) (nI_pred P) ?_
  exact wl_ireturn hT dX1_addPerson_36 ⟨rfl, rfl, rfl⟩

set_option maxHeartbeats 400000 in
theorem c_X1_peoplePresent {l : Launch} {D : va_G} {ad : Nat → Nat} {cy : Nat → ClassId} (hi : hx_inj ad) (I : MI) (J : MJ) (P : Nat) (hP : I 1 0 = nI P) (hP12 : P ≤ 12) : Ct l D ad cy yX1_peoplePresent cX1_peoplePresent 3 (some .int) 0 [.ref (ad 1)] I J (hx_is (some (.int (presF (I 7) P))) I J) := by
  refine ct_start hi (by decide +kernel) (Nat.le_of_ble_eq_true rfl) (fun X hX hT => ?_)
  show X 0 [(0, .ref (ad 1))] [] I J
  refine wl_iconst hX (v := 0) dX1_peoplePresent_0 (by decide) ?_
  refine wl_istore_n hX (lv' := [(1, .int 0), (0, .ref (ad 1))]) rfl (by decide) dX1_peoplePresent_1 ?_
  refine wl_iconst hX (v := 0) dX1_peoplePresent_2 (by decide) ?_
  refine wl_istore_n hX (lv' := [(2, .int 0), (1, .int 0), (0, .ref (ad 1))]) rfl (by decide) dX1_peoplePresent_3 ?_
  refine wl_sub hX [2, 1, 0] rfl ?_
  have L : ∀ (k q : Nat), q ≤ P → P - q < k → X 4 [(0, .ref (ad 1)), (1, .int (presF (I 7) q)), (2, .int (nI q))] [] I J := by
    intro k
    induction k with
    | zero => exact fun _  _ h => absurd h (Nat.not_lt_zero _)
    | succ k ihL =>
      intro q  hqn hqk
      refine wl_iload_n hX 2 rfl dX1_peoplePresent_4 ?_
      refine wl_aload_n hX 0 rfl dX1_peoplePresent_5 ?_
      refine gf_X1_0 hX tb_49 dX1_peoplePresent_6 ?_
      refine wl_eqi (y := nI P) hP ?_
      refine wl_icmp_ge hX (tgt := 30) dX1_peoplePresent_9 (by decide) (fun hqc => ?_) (fun hqc => ?_)
      · have hqe : q = P := by
          have h9 := (nI_leI (by omega) (by omega)).mp hqc
          omega
        refine wl_iload_n hX 1 rfl dX1_peoplePresent_30 ?_
        exact wl_ireturn hT dX1_peoplePresent_31 (hx_ri (by rw [hqe]))
      · have hq1 : q < P := Nat.lt_of_not_le (fun z => hqc ((nI_leI (by omega) (by omega)).mpr z))
        refine wl_aload_n hX 0 rfl dX1_peoplePresent_12 ?_
        refine gf_X1_4 hX tb_61 dX1_peoplePresent_13 ?_
        refine wl_iload_n hX 2 rfl dX1_peoplePresent_16 ?_
        refine wl_zald hX q kc_7 rfl (by omega) dX1_peoplePresent_17 ?_
        refine wl_if_eq hX (tgt := 24) dX1_peoplePresent_18 (by decide) (fun h2 => ?_) (fun h2 => ?_)
        · have e2 : presF (I 7) (q + 1) = presF (I 7) q := by
            show _ + (if I 7 q = 0 then 0 else 1) = _
            rw [if_pos h2]; exact i_add0 _
          rw [← e2]
          refine wl_iinc hX (v := nI (q + 1)) (lv' := [(2, .int (nI (q + 1))), (0, .ref (ad 1)), (1, .int (presF (I 7) (q + 1)))]) 2 rfl (nI_1 _) rfl (by decide) dX1_peoplePresent_24 ?_
          refine wl_goto hX (tgt := 4) dX1_peoplePresent_27 (by decide) ?_
          refine wl_sub hX [1, 2, 0] rfl ?_
          exact ihL (q + 1) (by omega) (by omega)
        · have e2 : presF (I 7) q + 1 = presF (I 7) (q + 1) := by
            show _ = _ + (if I 7 q = 0 then 0 else 1)
            rw [if_neg h2]; rfl
          refine wl_iinc hX (v := presF (I 7) (q + 1)) (lv' := [(1, .int (presF (I 7) (q + 1))), (0, .ref (ad 1)), (2, .int (nI q))]) 1 rfl (by exact e2) rfl (by decide) dX1_peoplePresent_21 ?_
          refine wl_iinc hX (v := nI (q + 1)) (lv' := [(2, .int (nI (q + 1))), (1, .int (presF (I 7) (q + 1))), (0, .ref (ad 1))]) 2 rfl (nI_1 _) rfl (by decide) dX1_peoplePresent_24 ?_
          refine wl_goto hX (tgt := 4) dX1_peoplePresent_27 (by decide) ?_
          refine wl_sub hX [2, 1, 0] rfl ?_
          exact ihL (q + 1) (by omega) (by omega)
  exact L (P + 1) 0 (by omega) (by omega)

set_option maxHeartbeats 400000 in
theorem c_X1_countOf {l : Launch} {D : va_G} {ad : Nat → Nat} {cy : Nat → ClassId} (hi : hx_inj ad) (I : MI) (J : MJ) (q : Nat) (hq : q < 6) (P : Nat) (hP : I 1 0 = nI P) (hP12 : P ≤ 12) : Ct l D ad cy yX1_countOf cX1_countOf 4 (some .int) 0 [.ref (ad 1), .int (nI q)] I J (hx_is (some (.int (countF (I 7) (vC I) P q))) I J) := by
  refine ct_start hi (by decide +kernel) (Nat.le_of_ble_eq_true rfl) (fun X hX hT => ?_)
  show X 0 [(0, .ref (ad 1)), (1, .int (nI q))] [] I J
  refine wl_iconst hX (v := 0) dX1_countOf_0 (by decide) ?_
  refine wl_istore_n hX (lv' := [(2, .int 0), (0, .ref (ad 1)), (1, .int (nI q))]) rfl (by decide) dX1_countOf_1 ?_
  refine wl_iconst hX (v := 0) dX1_countOf_2 (by decide) ?_
  refine wl_istore_n hX (lv' := [(3, .int 0), (2, .int 0), (0, .ref (ad 1)), (1, .int (nI q))]) rfl (by decide) dX1_countOf_3 ?_
  refine wl_sub hX [2, 3, 1, 0] rfl ?_
  have L : ∀ (k p : Nat), p ≤ P → P - p < k → X 4 [(0, .ref (ad 1)), (1, .int (nI q)), (2, .int (countF (I 7) (vC I) p q)), (3, .int (nI p))] [] I J := by
    intro k
    induction k with
    | zero => exact fun _  _ h => absurd h (Nat.not_lt_zero _)
    | succ k ihL =>
      intro p  hpn hpk
      refine wl_iload_n hX 3 rfl dX1_countOf_4 ?_
      refine wl_aload_n hX 0 rfl dX1_countOf_5 ?_
      refine gf_X1_0 hX tb_49 dX1_countOf_6 ?_
      refine wl_eqi (y := nI P) hP ?_
      refine wl_icmp_ge hX (tgt := 38) dX1_countOf_9 (by decide) (fun hpc => ?_) (fun hpc => ?_)
      · have hpe : p = P := by
          have h9 := (nI_leI (by omega) (by omega)).mp hpc
          omega
        refine wl_iload_n hX 2 rfl dX1_countOf_38 ?_
        exact wl_ireturn hT dX1_countOf_39 (hx_ri (by rw [hpe]))
      · have hp1 : p < P := Nat.lt_of_not_le (fun z => hpc ((nI_leI (by omega) (by omega)).mpr z))
        refine wl_aload_n hX 0 rfl dX1_countOf_12 ?_
        refine gf_X1_4 hX tb_61 dX1_countOf_13 ?_
        refine wl_iload_n hX 3 rfl dX1_countOf_16 ?_
        refine wl_zald hX p kc_7 rfl (by omega) dX1_countOf_17 ?_
        refine wl_if_eq hX (tgt := 32) dX1_countOf_18 (by decide) (fun h2 => ?_) (fun h2 => ?_)
        · have e2 : countF (I 7) (vC I) (p + 1) q = countF (I 7) (vC I) p q := by
            show _ + (if I 7 p = 0 then 0 else vC I p q) = _
            rw [if_pos h2]; exact i_add0 _
          rw [← e2]
          refine wl_iinc hX (v := nI (p + 1)) (lv' := [(3, .int (nI (p + 1))), (0, .ref (ad 1)), (1, .int (nI q)), (2, .int (countF (I 7) (vC I) (p + 1) q))]) 3 rfl (nI_1 _) rfl (by decide) dX1_countOf_32 ?_
          refine wl_goto hX (tgt := 4) dX1_countOf_35 (by decide) ?_
          refine wl_sub hX [1, 2, 3, 0] rfl ?_
          exact ihL (p + 1) (by omega) (by omega)
        · have e2 : countF (I 7) (vC I) p q + I (33 + p) q = countF (I 7) (vC I) (p + 1) q := by
            show _ = _ + (if I 7 p = 0 then 0 else vC I p q)
            rw [if_neg h2]; rfl
          refine wl_iload_n hX 2 rfl dX1_countOf_21 ?_
          refine wl_aload_n hX 0 rfl dX1_countOf_22 ?_
          refine gf_X1_5 hX tb_64 dX1_countOf_23 ?_
          refine wl_iload_n hX 3 rfl dX1_countOf_26 ?_
          refine wl_aald4 hX p kc_8 rfl (by omega) dX1_countOf_27 ?_
          refine wl_iload_n hX 1 rfl dX1_countOf_28 ?_
          refine wl_iald hX q (kd_33 (by omega)) rfl (by omega) dX1_countOf_29 ?_
          refine wl_iadd hX dX1_countOf_30 ?_
          refine wl_eqi (y := countF (I 7) (vC I) (p + 1) q) e2 ?_
          refine wl_istore_n hX (lv' := [(2, .int (countF (I 7) (vC I) (p + 1) q)), (0, .ref (ad 1)), (1, .int (nI q)), (3, .int (nI p))]) rfl (by decide) dX1_countOf_31 ?_
          refine wl_iinc hX (v := nI (p + 1)) (lv' := [(3, .int (nI (p + 1))), (2, .int (countF (I 7) (vC I) (p + 1) q)), (0, .ref (ad 1)), (1, .int (nI q))]) 3 rfl (nI_1 _) rfl (by decide) dX1_countOf_32 ?_
          refine wl_goto hX (tgt := 4) dX1_countOf_35 (by decide) ?_
          refine wl_sub hX [2, 3, 1, 0] rfl ?_
          exact ihL (p + 1) (by omega) (by omega)
  exact L (P + 1) 0 (by omega) (by omega)

set_option maxHeartbeats 400000 in
theorem c_X1_countWithout {l : Launch} {D : va_G} {ad : Nat → Nat} {cy : Nat → ClassId} (hi : hx_inj ad) (I : MI) (J : MJ) (p q : Nat) (hp : p < 12) (hq : q < 6) (P : Nat) (hP : I 1 0 = nI P) (hP12 : P ≤ 12) : Ct l D ad cy yX1_countWithout cX1_countWithout 4 (some .int) 1 [.ref (ad 1), .int (nI p), .int (nI q)] I J (hx_is (some (.int (lessF (I 7) (vC I) P p q))) I J) := by
  refine ct_start hi (by decide +kernel) (Nat.le_of_ble_eq_true rfl) (fun X hX hT => ?_)
  show X 0 [(0, .ref (ad 1)), (1, .int (nI p)), (2, .int (nI q))] [] I J
  refine wl_aload_n hX 0 rfl dX1_countWithout_0 ?_
  refine wl_iload_n hX 2 rfl dX1_countWithout_1 ?_
  refine wl_cVi hX (c_X1_countOf hi I J q hq P hP hP12) mv_X1_countOf tb_284 (by decide) rfl rfl rfl rfl (by omega) (Nat.le_of_ble_eq_true rfl) dX1_countWithout_2 ?_
  refine wl_istore_n hX (lv' := [(3, .int (countF (I 7) (vC I) P q)), (0, .ref (ad 1)), (1, .int (nI p)), (2, .int (nI q))]) rfl (by decide) dX1_countWithout_5 ?_
  refine wl_aload_n hX 1 rfl dX1_countWithout_6 ?_
  refine gf_X1_4 hX tb_61 dX1_countWithout_7 ?_
  refine wl_iload_n hX 2 rfl dX1_countWithout_10 ?_
  refine wl_zald hX p kc_7 rfl (by omega) dX1_countWithout_11 ?_
  refine wl_if_eq hX (tgt := 28) dX1_countWithout_12 (by decide) (fun h2 => ?_) (fun h2 => ?_)
  · refine wl_iload_n hX 0 rfl dX1_countWithout_28 ?_
    exact wl_ireturn hT dX1_countWithout_29 (hx_ri (by unfold lessF; rw [if_pos h2]))
  · refine wl_iload_n hX 0 rfl dX1_countWithout_15 ?_
    refine wl_aload_n hX 1 rfl dX1_countWithout_16 ?_
    refine gf_X1_5 hX tb_64 dX1_countWithout_17 ?_
    refine wl_iload_n hX 2 rfl dX1_countWithout_20 ?_
    refine wl_aald4 hX p kc_8 rfl (by omega) dX1_countWithout_21 ?_
    refine wl_iload_n hX 3 rfl dX1_countWithout_22 ?_
    refine wl_iald hX q (kd_33 (by omega)) rfl (by omega) dX1_countWithout_23 ?_
    refine wl_isub hX dX1_countWithout_24 ?_
    refine wl_goto hX (tgt := 29) dX1_countWithout_25 (by decide) ?_
    exact wl_ireturn hT dX1_countWithout_29 (hx_ri (by unfold lessF; rw [if_neg h2]; rfl))

set_option maxHeartbeats 400000 in
theorem c_X1_resultOf {l : Launch} {D : va_G} {ad : Nat → Nat} {cy : Nat → ClassId} (hi : hx_inj ad) (I : MI) (J : MJ) (q : Nat) (c : Int32) (hq : q < 6) : Ct l D ad cy yX1_resultOf cX1_resultOf 5 (some .int) 0 [.ref (ad 1), .int (nI q), .int c] I J (hx_is (some (.int (resF (I 1 2) q c))) I J) := by
  refine ct_start hi (by decide +kernel) (Nat.le_of_ble_eq_true rfl) (fun X hX hT => ?_)
  show X 0 [(0, .ref (ad 1)), (1, .int (nI q)), (2, .int c)] [] I J
  refine wl_iload_n hX 2 rfl dX1_resultOf_0 ?_
  refine wl_if_eq hX (tgt := 14) dX1_resultOf_1 (by decide) (fun h1 => ?_) (fun h1 => ?_)
  · refine wl_aload_n hX 0 rfl dX1_resultOf_14 ?_
    refine gf_X1_2 hX tb_57 dX1_resultOf_15 ?_
    refine wl_istore_n hX (lv' := [(3, .int (I 1 2)), (0, .ref (ad 1)), (1, .int (nI q)), (2, .int c)]) rfl (by decide) dX1_resultOf_18 ?_
    refine wl_iconst hX (v := 0) dX1_resultOf_19 (by decide) ?_
    refine wl_istore hX (lv' := [(4, .int 0), (3, .int (I 1 2)), (0, .ref (ad 1)), (1, .int (nI q)), (2, .int c)]) rfl (by decide) dX1_resultOf_20 ?_
    refine wl_sub hX [2, 3, 4, 1, 0] rfl ?_
    have L : ∀ (k i : Nat), i ≤ (q + 1) → (q + 1) - i < k → X 22 [(0, .ref (ad 1)), (1, .int (nI q)), (2, .int c), (3, .int (lotF (I 1 2) i)), (4, .int (nI i))] [] I J := by
      intro k
      induction k with
      | zero => exact fun _  _ h => absurd h (Nat.not_lt_zero _)
      | succ k ihL =>
        intro i  hin hik
        refine wl_iload hX 4 rfl dX1_resultOf_22 ?_
        refine wl_iload_n hX 1 rfl dX1_resultOf_24 ?_
        refine wl_icmp_gt hX (tgt := 42) dX1_resultOf_25 (by decide) (fun hic => ?_) (fun hic => ?_)
        · have hie : i = q + 1 := by
            have h9 := (nI_ltI (by omega) (by omega)).mp hic
            omega
          refine wl_iload_n hX 3 rfl dX1_resultOf_42 ?_
          refine wl_bipush hX (v := 20) dX1_resultOf_43 (by decide) ?_
          refine wl_iushr hX (v := ((lotF (I 1 2) i).toUInt32 >>> ((20 : Int32).toUInt32 &&& Int32.toUInt32 31)).toInt32) dX1_resultOf_45 rfl ?_
          refine wl_iconst hX (v := 1) dX1_resultOf_46 (by decide) ?_
          refine wl_iand hX dX1_resultOf_47 ?_
          refine wl_iconst hX (v := 1) dX1_resultOf_48 (by decide) ?_
          refine wl_icmp_ne hX (tgt := 56) dX1_resultOf_49 (by decide) (fun h5 => ?_) (fun h5 => ?_)
          · refine wl_iconst hX (v := (-1)) dX1_resultOf_56 (by decide) ?_
            exact wl_ireturn hT dX1_resultOf_57 (hx_ri (by unfold resF; rw [if_pos h1, if_neg (by rw [← hie]; exact h5)]))
          · refine wl_iconst hX (v := 1) dX1_resultOf_52 (by decide) ?_
            refine wl_goto hX (tgt := 57) dX1_resultOf_53 (by decide) ?_
            exact wl_ireturn hT dX1_resultOf_57 (hx_ri (by unfold resF; rw [if_pos h1, if_pos (by rw [← hie]; exact h5)]))
        · have hi1 : i ≤ q := Nat.le_of_not_lt (fun z => hic ((nI_ltI (by omega) (by omega)).mpr z))
          refine wl_iload_n hX 3 rfl dX1_resultOf_28 ?_
          refine wl_ldc hX tb_273 dX1_resultOf_29 ?_
          refine wl_imul hX dX1_resultOf_31 ?_
          refine wl_ldc hX tb_274 dX1_resultOf_32 ?_
          refine wl_iadd hX dX1_resultOf_34 ?_
          refine wl_istore_n hX (lv' := [(3, .int (((lotF (I 1 2) i) * 1664525) + 1013904223)), (0, .ref (ad 1)), (1, .int (nI q)), (2, .int c), (4, .int (nI i))]) rfl (by decide) dX1_resultOf_35 ?_
          refine wl_iinc hX (v := nI (i + 1)) (lv' := [(4, .int (nI (i + 1))), (3, .int (((lotF (I 1 2) i) * 1664525) + 1013904223)), (0, .ref (ad 1)), (1, .int (nI q)), (2, .int c)]) 4 rfl (nI_1 _) rfl (by decide) dX1_resultOf_36 ?_
          refine wl_goto hX (tgt := 22) dX1_resultOf_39 (by decide) ?_
          refine wl_sub hX [2, 3, 4, 1, 0] rfl ?_
          exact ihL (i + 1) (by omega) (by omega)
    exact L (q + 1 + 1) 0 (by omega) (by omega)
  · refine wl_iload_n hX 2 rfl dX1_resultOf_4 ?_
    refine wl_if_le hX (tgt := 12) dX1_resultOf_5 (by decide) (fun h2 => ?_) (fun h2 => ?_)
    · refine wl_iconst hX (v := (-1)) dX1_resultOf_12 (by decide) ?_
      exact wl_ireturn hT dX1_resultOf_13 (hx_ri (by unfold resF; rw [if_neg h1, if_neg (fun h => by rw [Int32.lt_iff_toInt_lt] at h; rw [Int32.le_iff_toInt_le] at h2; omega)]))
    · refine wl_iconst hX (v := 1) dX1_resultOf_8 (by decide) ?_
      refine wl_goto hX (tgt := 13) dX1_resultOf_9 (by decide) ?_
      exact wl_ireturn hT dX1_resultOf_13 (hx_ri (by unfold resF; rw [if_neg h1, if_pos (by rw [Int32.le_iff_toInt_le] at h2; rw [Int32.lt_iff_toInt_lt]; omega)]))

set_option maxHeartbeats 400000 in
theorem c_X1_gainBy {l : Launch} {D : va_G} {ad : Nat → Nat} {cy : Nat → ClassId} (hi : hx_inj ad) (I : MI) (J : MJ) (c w : Int32) : Ct l D ad cy yX1_gainBy cX1_gainBy 2 (some .int) 0 [.int c, .int w] I J (hx_is (some (.int (gByF c w))) I J) := by
  refine ct_start hi (by decide +kernel) (Nat.le_of_ble_eq_true rfl) (fun X hX hT => ?_)
  show X 0 [(0, .int c), (1, .int w)] [] I J
  refine wl_iload_n hX 0 rfl dX1_gainBy_0 ?_
  refine wl_if_ge hX (tgt := 6) dX1_gainBy_1 (by decide) (fun h1 => ?_) (fun h1 => ?_)
  · refine wl_iload_n hX 0 rfl dX1_gainBy_6 ?_
    refine wl_if_ne hX (tgt := 14) dX1_gainBy_7 (by decide) (fun h2 => ?_) (fun h2 => ?_)
    · refine wl_iconst hX (v := 2) dX1_gainBy_14 (by decide) ?_
      refine wl_iload_n hX 1 rfl dX1_gainBy_15 ?_
      refine wl_imul hX dX1_gainBy_16 ?_
      exact wl_ireturn hT dX1_gainBy_17 (hx_ri (by unfold gByF; rw [if_pos h1, if_neg h2]))
    · refine wl_iload_n hX 1 rfl dX1_gainBy_10 ?_
      refine wl_goto hX (tgt := 17) dX1_gainBy_11 (by decide) ?_
      exact wl_ireturn hT dX1_gainBy_17 (hx_ri (by unfold gByF; rw [if_pos h1, if_pos h2]))
  · refine wl_iconst hX (v := 0) dX1_gainBy_4 (by decide) ?_
    exact wl_ireturn hT dX1_gainBy_5 (hx_ri (by unfold gByF; rw [if_neg h1]))

set_option maxHeartbeats 400000 in
theorem c_X1_gainOf {l : Launch} {D : va_G} {ad : Nat → Nat} {cy : Nat → ClassId} (hi : hx_inj ad) (I : MI) (J : MJ) (p : Nat) (hp : p < 12) (P : Nat) (hP : I 1 0 = nI P) (hP12 : P ≤ 12) (Q : Nat) (hQ : I 1 1 = nI Q) (hQ6 : Q ≤ 6) : Ct l D ad cy yX1_gainOf cX1_gainOf 4 (some .int) 1 [.ref (ad 1), .int (nI p)] I J (hx_is (some (.int (gainF (I 7) (vC I) (wC I) P Q p))) I J) := by
  refine ct_start hi (by decide +kernel) (Nat.le_of_ble_eq_true rfl) (fun X hX hT => ?_)
  show X 0 [(0, .ref (ad 1)), (1, .int (nI p))] [] I J
  refine wl_iconst hX (v := 0) dX1_gainOf_0 (by decide) ?_
  refine wl_istore_n hX (lv' := [(2, .int 0), (0, .ref (ad 1)), (1, .int (nI p))]) rfl (by decide) dX1_gainOf_1 ?_
  refine wl_iconst hX (v := 0) dX1_gainOf_2 (by decide) ?_
  refine wl_istore_n hX (lv' := [(3, .int 0), (2, .int 0), (0, .ref (ad 1)), (1, .int (nI p))]) rfl (by decide) dX1_gainOf_3 ?_
  refine wl_sub hX [2, 3, 1, 0] rfl ?_
  have L : ∀ (k q : Nat), q ≤ Q → Q - q < k → X 4 [(0, .ref (ad 1)), (1, .int (nI p)), (2, .int (gainF (I 7) (vC I) (wC I) P q p)), (3, .int (nI q))] [] I J := by
    intro k
    induction k with
    | zero => exact fun _  _ h => absurd h (Nat.not_lt_zero _)
    | succ k ihL =>
      intro q  hqn hqk
      refine wl_iload_n hX 3 rfl dX1_gainOf_4 ?_
      refine wl_aload_n hX 0 rfl dX1_gainOf_5 ?_
      refine gf_X1_1 hX tb_55 dX1_gainOf_6 ?_
      refine wl_eqi (y := nI Q) hQ ?_
      refine wl_icmp_ge hX (tgt := 37) dX1_gainOf_9 (by decide) (fun hqc => ?_) (fun hqc => ?_)
      · have hqe : q = Q := by
          have h9 := (nI_leI (by omega) (by omega)).mp hqc
          omega
        refine wl_iload_n hX 2 rfl dX1_gainOf_37 ?_
        exact wl_ireturn hT dX1_gainOf_38 (hx_ri (by rw [hqe]))
      · have hq1 : q < Q := Nat.lt_of_not_le (fun z => hqc ((nI_leI (by omega) (by omega)).mpr z))
        refine wl_iload_n hX 2 rfl dX1_gainOf_12 ?_
        refine wl_aload_n hX 0 rfl dX1_gainOf_13 ?_
        refine wl_iload_n hX 3 rfl dX1_gainOf_14 ?_
        refine wl_cVi hX (c_X1_countOf hi I J q (by omega) P hP hP12) mv_X1_countOf tb_284 (by decide) rfl rfl rfl rfl (by omega) (Nat.le_of_ble_eq_true rfl) dX1_gainOf_15 ?_
        refine wl_aload_n hX 0 rfl dX1_gainOf_18 ?_
        refine gf_X1_6 hX tb_67 dX1_gainOf_19 ?_
        refine wl_iload_n hX 1 rfl dX1_gainOf_22 ?_
        refine wl_aald4 hX p kc_9 rfl (by omega) dX1_gainOf_23 ?_
        refine wl_iload_n hX 3 rfl dX1_gainOf_24 ?_
        refine wl_iald hX q (kd_45 (by omega)) rfl (by omega) dX1_gainOf_25 ?_
        refine wl_cSi hX (c_X1_gainBy hi I J (countF (I 7) (vC I) P q) (I (45 + p) q)) mv_X1_gainBy tb_285 rfl rfl (by omega) (Nat.le_of_ble_eq_true rfl) dX1_gainOf_26 ?_
        refine wl_iadd hX dX1_gainOf_29 ?_
        refine wl_eqi (y := gainF (I 7) (vC I) (wC I) P (q + 1) p) rfl ?_
        refine wl_istore_n hX (lv' := [(2, .int (gainF (I 7) (vC I) (wC I) P (q + 1) p)), (0, .ref (ad 1)), (1, .int (nI p)), (3, .int (nI q))]) rfl (by decide) dX1_gainOf_30 ?_
        refine wl_iinc hX (v := nI (q + 1)) (lv' := [(3, .int (nI (q + 1))), (2, .int (gainF (I 7) (vC I) (wC I) P (q + 1) p)), (0, .ref (ad 1)), (1, .int (nI p))]) 3 rfl (nI_1 _) rfl (by decide) dX1_gainOf_31 ?_
        refine wl_goto hX (tgt := 4) dX1_gainOf_34 (by decide) ?_
        refine wl_sub hX [2, 3, 1, 0] rfl ?_
        exact ihL (q + 1) (by omega) (by omega)
  exact L (Q + 1) 0 (by omega) (by omega)

set_option maxHeartbeats 400000 in
theorem c_X1_swingsOf {l : Launch} {D : va_G} {ad : Nat → Nat} {cy : Nat → ClassId} (hi : hx_inj ad) (I : MI) (J : MJ) (p : Nat) (hp : p < 12) (P : Nat) (hP : I 1 0 = nI P) (hP12 : P ≤ 12) (Q : Nat) (hQ : I 1 1 = nI Q) (hQ6 : Q ≤ 6) : Ct l D ad cy yX1_swingsOf cX1_swingsOf 5 (some .int) 2 [.ref (ad 1), .int (nI p)] I J (hx_is (some (.int (swF (I 1 2) (I 7) (vC I) P Q p))) I J) := by
  refine ct_start hi (by decide +kernel) (Nat.le_of_ble_eq_true rfl) (fun X hX hT => ?_)
  show X 0 [(0, .ref (ad 1)), (1, .int (nI p))] [] I J
  refine wl_iconst hX (v := 0) dX1_swingsOf_0 (by decide) ?_
  refine wl_istore_n hX (lv' := [(2, .int 0), (0, .ref (ad 1)), (1, .int (nI p))]) rfl (by decide) dX1_swingsOf_1 ?_
  refine wl_iconst hX (v := 0) dX1_swingsOf_2 (by decide) ?_
  refine wl_istore_n hX (lv' := [(3, .int 0), (2, .int 0), (0, .ref (ad 1)), (1, .int (nI p))]) rfl (by decide) dX1_swingsOf_3 ?_
  refine wl_sub hX [2, 3, 1, 0] rfl ?_
  have L : ∀ (k q : Nat), q ≤ Q → Q - q < k → X 4 [(0, .ref (ad 1)), (1, .int (nI p)), (2, .int (swF (I 1 2) (I 7) (vC I) P q p)), (3, .int (nI q))] [] I J := by
    intro k
    induction k with
    | zero => exact fun _  _ h => absurd h (Nat.not_lt_zero _)
    | succ k ihL =>
      intro q  hqn hqk
      refine wl_iload_n hX 3 rfl dX1_swingsOf_4 ?_
      refine wl_aload_n hX 0 rfl dX1_swingsOf_5 ?_
      refine gf_X1_1 hX tb_55 dX1_swingsOf_6 ?_
      refine wl_eqi (y := nI Q) hQ ?_
      refine wl_icmp_ge hX (tgt := 58) dX1_swingsOf_9 (by decide) (fun hqc => ?_) (fun hqc => ?_)
      · have hqe : q = Q := by
          have h9 := (nI_leI (by omega) (by omega)).mp hqc
          omega
        refine wl_iload_n hX 2 rfl dX1_swingsOf_58 ?_
        exact wl_ireturn hT dX1_swingsOf_59 (hx_ri (by rw [hqe]))
      · have hq1 : q < Q := Nat.lt_of_not_le (fun z => hqc ((nI_leI (by omega) (by omega)).mpr z))
        refine wl_aload_n hX 0 rfl dX1_swingsOf_12 ?_
        refine wl_iload_n hX 1 rfl dX1_swingsOf_13 ?_
        refine wl_iload_n hX 3 rfl dX1_swingsOf_14 ?_
        refine wl_cVi hX (c_X1_countWithout hi I J p q hp (by omega) P hP hP12) mv_X1_countWithout tb_296 (by decide) rfl rfl rfl rfl (by omega) (Nat.le_of_ble_eq_true rfl) dX1_swingsOf_15 ?_
        refine wl_istore hX (lv' := [(4, .int (lessF (I 7) (vC I) P p q)), (0, .ref (ad 1)), (1, .int (nI p)), (2, .int (swF (I 1 2) (I 7) (vC I) P q p)), (3, .int (nI q))]) rfl (by decide) dX1_swingsOf_18 ?_
        refine wl_aload_n hX 1 rfl dX1_swingsOf_20 ?_
        refine wl_iload_n hX 4 rfl dX1_swingsOf_21 ?_
        refine wl_iload hX 0 rfl dX1_swingsOf_22 ?_
        refine wl_cVi hX (c_X1_resultOf hi I J q (lessF (I 7) (vC I) P p q) (by omega)) mv_X1_resultOf tb_300 (by decide) rfl rfl rfl rfl (by omega) (Nat.le_of_ble_eq_true rfl) dX1_swingsOf_24 ?_
        refine wl_aload_n hX 1 rfl dX1_swingsOf_27 ?_
        refine wl_iload_n hX 4 rfl dX1_swingsOf_28 ?_
        refine wl_iload hX 0 rfl dX1_swingsOf_29 ?_
        refine wl_aload_n hX 1 rfl dX1_swingsOf_31 ?_
        refine gf_X1_5 hX tb_64 dX1_swingsOf_32 ?_
        refine wl_iload_n hX 2 rfl dX1_swingsOf_35 ?_
        refine wl_aald4 hX p kc_8 rfl (by omega) dX1_swingsOf_36 ?_
        refine wl_iload_n hX 4 rfl dX1_swingsOf_37 ?_
        refine wl_iald hX q (kd_33 (by omega)) rfl (by omega) dX1_swingsOf_38 ?_
        refine wl_iadd hX dX1_swingsOf_39 ?_
        refine wl_cVi hX (c_X1_resultOf hi I J q (lessF (I 7) (vC I) P p q + I (33 + p) q) (by omega)) mv_X1_resultOf tb_300 (by decide) rfl rfl rfl rfl (by omega) (Nat.le_of_ble_eq_true rfl) dX1_swingsOf_40 ?_
        refine wl_icmp_eq hX (tgt := 52) dX1_swingsOf_43 (by decide) (fun h2 => ?_) (fun h2 => ?_)
        · have e2 : swF (I 1 2) (I 7) (vC I) P (q + 1) p = swF (I 1 2) (I 7) (vC I) P q p ||| (if resF (I 1 2) q (lessF (I 7) (vC I) P p q) = resF (I 1 2) q (lessF (I 7) (vC I) P p q + I (33 + p) q) then (0 : Int32) else 1 <<< (nI q &&& 31)) := rfl
          rw [if_pos h2, i_or0] at e2
          rw [← e2]
          refine wl_iinc hX (v := nI (q + 1)) (lv' := [(3, .int (nI (q + 1))), (4, .int (lessF (I 7) (vC I) P p q)), (0, .ref (ad 1)), (1, .int (nI p)), (2, .int (swF (I 1 2) (I 7) (vC I) P (q + 1) p))]) 4 rfl (nI_1 _) rfl (by decide) dX1_swingsOf_52 ?_
          refine wl_goto hX (tgt := 4) dX1_swingsOf_55 (by decide) ?_
          refine wl_sub hX [2, 3, 4, 0] rfl ?_
          exact ihL (q + 1) (by omega) (by omega)
        · have e2 : swF (I 1 2) (I 7) (vC I) P (q + 1) p = swF (I 1 2) (I 7) (vC I) P q p ||| (if resF (I 1 2) q (lessF (I 7) (vC I) P p q) = resF (I 1 2) q (lessF (I 7) (vC I) P p q + I (33 + p) q) then (0 : Int32) else 1 <<< (nI q &&& 31)) := rfl
          rw [if_neg h2] at e2
          refine wl_iload_n hX 3 rfl dX1_swingsOf_46 ?_
          refine wl_iconst hX (v := 1) dX1_swingsOf_47 (by decide) ?_
          refine wl_iload_n hX 4 rfl dX1_swingsOf_48 ?_
          refine wl_ishl hX dX1_swingsOf_49 ?_
          refine wl_ior hX dX1_swingsOf_50 ?_
          refine wl_eqi (y := swF (I 1 2) (I 7) (vC I) P (q + 1) p) e2.symm ?_
          refine wl_istore_n hX (lv' := [(2, .int (swF (I 1 2) (I 7) (vC I) P (q + 1) p)), (4, .int (lessF (I 7) (vC I) P p q)), (0, .ref (ad 1)), (1, .int (nI p)), (3, .int (nI q))]) rfl (by decide) dX1_swingsOf_51 ?_
          refine wl_iinc hX (v := nI (q + 1)) (lv' := [(3, .int (nI (q + 1))), (2, .int (swF (I 1 2) (I 7) (vC I) P (q + 1) p)), (4, .int (lessF (I 7) (vC I) P p q)), (0, .ref (ad 1)), (1, .int (nI p))]) 4 rfl (nI_1 _) rfl (by decide) dX1_swingsOf_52 ?_
          refine wl_goto hX (tgt := 4) dX1_swingsOf_55 (by decide) ?_
          refine wl_sub hX [3, 4, 1, 0] rfl ?_
          exact ihL (q + 1) (by omega) (by omega)
  exact L (Q + 1) 0 (by omega) (by omega)

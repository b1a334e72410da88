/-! the public calls of the class -/
set_option maxHeartbeats 400000 in
theorem c_X4_isWithin {l : Launch} {D : va_G} {ad : Nat → Nat} {cy : Nat → ClassId} (hi : hx_inj ad) (I : MI) (J : MJ) (x a b : Int32) : Ct l D ad cy yX4_isWithin cX4_isWithin 3 (some .boolean) 0 [.int x, .int a, .int b] I J (hx_is (some (.int (withinF x a b))) I J) := by
  refine ct_start hi (by decide +kernel) (Nat.le_of_ble_eq_true rfl) (fun X hX hT => ?_)
  show X 0 [(0, .int x), (1, .int a), (2, .int b)] [] I J
  refine wl_iload_n hX 0 rfl dX4_isWithin_0 ?_
  refine wl_iload_n hX 1 rfl dX4_isWithin_1 ?_
  refine wl_icmp_lt hX (tgt := 14) dX4_isWithin_2 (by decide) (fun h1 => ?_) (fun h1 => ?_)
  · refine wl_iconst hX (v := 0) dX4_isWithin_14 (by decide) ?_
    exact wl_zreturn hT dX4_isWithin_15 (by decide) (hx_ri (if_neg (fun z => by have z1 := Int32.le_iff_toInt_le.mp z.1; rw [Int32.lt_iff_toInt_lt] at h1; omega)).symm)
  · refine wl_iload_n hX 0 rfl dX4_isWithin_5 ?_
    refine wl_iload_n hX 2 rfl dX4_isWithin_6 ?_
    refine wl_icmp_gt hX (tgt := 14) dX4_isWithin_7 (by decide) (fun h2 => ?_) (fun h2 => ?_)
    · refine wl_iconst hX (v := 0) dX4_isWithin_14 (by decide) ?_
      exact wl_zreturn hT dX4_isWithin_15 (by decide) (hx_ri (if_neg (fun z => by have z1 := Int32.le_iff_toInt_le.mp z.2; rw [Int32.lt_iff_toInt_lt] at h2; omega)).symm)
    · refine wl_iconst hX (v := 1) dX4_isWithin_10 (by decide) ?_
      refine wl_goto hX (tgt := 15) dX4_isWithin_11 (by decide) ?_
      exact wl_zreturn hT dX4_isWithin_15 (by decide) (hx_ri (if_pos ⟨by rw [Int32.le_iff_toInt_le]; rw [Int32.lt_iff_toInt_lt] at h1; omega, by rw [Int32.le_iff_toInt_le]; rw [Int32.lt_iff_toInt_lt] at h2; omega⟩).symm)

set_option maxHeartbeats 400000 in
theorem c_X4_person {l : Launch} {D : va_G} {ad : Nat → Nat} {cy : Nat → ClassId} (hi : hx_inj ad) (I : MI) (J : MJ) (b : Int32) (P : Nat) (hP : I 1 0 = nI P) (hP12 : P ≤ 12) : Ct l D ad cy yX4_person cX4_person 2 (some .int) 1 [.ref (ad 0), .int b] I J (hx_is (some (.int (personR P b))) (hx_if (¬ withinF b 0 2000 = 0 ∧ P < 12) (hx_u (hx_u (hx_u I 6 P b) 7 P 1) 1 0 (nI (P + 1))) I) J) := by
  refine ct_start hi (by decide +kernel) (Nat.le_of_ble_eq_true rfl) (fun X hX hT => ?_)
  show X 0 [(0, .ref (ad 0)), (1, .int b)] [] I J
  refine wl_iload_n hX 1 rfl dX4_person_0 ?_
  refine wl_iconst hX (v := 0) dX4_person_1 (by decide) ?_
  refine wl_sipush hX (v := 2000) dX4_person_2 (by decide) ?_
  refine wl_cSi hX (c_X4_isWithin hi I J b 0 2000) mv_X4_isWithin tb_206 rfl rfl (by omega) (Nat.le_of_ble_eq_true rfl) dX4_person_5 ?_
  refine wl_if_ne hX (tgt := 14) dX4_person_8 (by decide) (fun h1 => ?_) (fun h1 => ?_)
  · refine wl_aload_n hX 0 rfl dX4_person_14 ?_
    refine gf_X4_0 hX tb_189 dX4_person_15 ?_
    refine gf_X1_0 hX tb_50 dX4_person_18 ?_
    refine wl_eqi (y := nI P) hP ?_
    refine wl_bipush hX (v := 12) dX4_person_21 (by decide) ?_
    refine wl_icmp_lt hX (tgt := 29) dX4_person_23 (by decide) (fun h2 => ?_) (fun h2 => ?_)
    · have k2 : P < 12 := (nI_ltI (b := 12) (by omega) (by omega)).mp h2
      rw [hx_ifp ⟨h1, k2⟩] at hT
      refine wl_aload_n hX 0 rfl dX4_person_29 ?_
      refine gf_X4_0 hX tb_189 dX4_person_30 ?_
      refine wl_iload_n hX 1 rfl dX4_person_33 ?_
      refine wl_cVi hX (c_X1_addPerson hi I J b P hP k2) mv_X1_addPerson tb_209 (by decide) rfl rfl rfl rfl (by omega) (Nat.le_of_ble_eq_true rfl) dX4_person_34 ?_
      exact wl_ireturn hT dX4_person_37 (hx_ri (by unfold personR; rw [if_neg h1, if_neg (by omega)]))
    · have k2 : 12 ≤ P := Nat.le_of_not_lt (fun z => h2 ((nI_ltI (b := 12) (by omega) (by omega)).mpr z))
      rw [hx_ifn (fun z => by have := z.2; omega)] at hT
      refine wl_bipush hX (v := (-104)) dX4_person_26 (by decide) ?_
      exact wl_ireturn hT dX4_person_28 (hx_ri (by unfold personR; rw [if_neg h1, if_pos k2]))
  · rw [hx_ifn (fun z => z.1 h1)] at hT
    refine wl_bipush hX (v := (-102)) dX4_person_11 (by decide) ?_
    exact wl_ireturn hT dX4_person_13 (hx_ri (by unfold personR; rw [if_pos h1]))

set_option maxHeartbeats 400000 in
theorem c_X4_question {l : Launch} {D : va_G} {ad : Nat → Nat} {cy : Nat → ClassId} (hi : hx_inj ad) (I : MI) (J : MJ) (Q : Nat) (hQ : I 1 1 = nI Q) (hQ6 : Q ≤ 6) : Ct l D ad cy yX4_question cX4_question 1 (some .int) 0 [.ref (ad 0)] I J (hx_is (some (.int (roomR 6 Q))) (hx_if (Q < 6) (hx_u I 1 1 (nI (Q + 1))) I) J) := by
  refine ct_start hi (by decide +kernel) (Nat.le_of_ble_eq_true rfl) (fun X hX hT => ?_)
  show X 0 [(0, .ref (ad 0))] [] I J
  refine wl_aload_n hX 0 rfl dX4_question_0 ?_
  refine gf_X4_0 hX tb_189 dX4_question_1 ?_
  refine gf_X1_1 hX tb_54 dX4_question_4 ?_
  refine wl_eqi (y := nI Q) hQ ?_
  refine wl_bipush hX (v := 6) dX4_question_7 (by decide) ?_
  refine wl_icmp_lt hX (tgt := 15) dX4_question_9 (by decide) (fun h1 => ?_) (fun h1 => ?_)
  · have k2 : Q < 6 := (nI_ltI (b := 6) (by omega) (by omega)).mp h1
    rw [hx_ifp k2] at hT
    refine wl_aload_n hX 0 rfl dX4_question_15 ?_
    refine gf_X4_0 hX tb_189 dX4_question_16 ?_
    refine wl_dup hX dX4_question_19 rfl ?_
    refine gf_X1_1 hX tb_54 dX4_question_20 ?_
    refine wl_eqi (y := nI Q) hQ ?_
    refine wl_iconst hX (v := 1) dX4_question_23 (by decide) ?_
    refine wl_iadd hX dX4_question_24 ?_
    refine wl_eqi (y := nI (Q + 1)) (nI_1 Q) ?_
    refine pf_X1_1 hX tb_54 dX4_question_25 ?_
    refine wl_aload_n hX 0 rfl dX4_question_28 ?_
    refine gf_X4_0 hX tb_189 dX4_question_29 ?_
    refine gf_X1_1 hX tb_54 dX4_question_32 ?_
    refine wl_iconst hX (v := 1) dX4_question_35 (by decide) ?_
    refine wl_isub hX dX4_question_36 ?_
    exact wl_ireturn hT dX4_question_37 (hx_ri (by unfold roomR; rw [if_neg (by omega)]; exact nI_pred Q))
  · have k2 : 6 ≤ Q := Nat.le_of_not_lt (fun z => h1 ((nI_ltI (b := 6) (by omega) (by omega)).mpr z))
    rw [hx_ifn (by omega)] at hT
    refine wl_bipush hX (v := (-104)) dX4_question_12 (by decide) ?_
    exact wl_ireturn hT dX4_question_14 (hx_ri (by unfold roomR; rw [if_pos k2]))

set_option maxHeartbeats 400000 in
theorem c_X4_project {l : Launch} {D : va_G} {ad : Nat → Nat} {cy : Nat → ClassId} (hi : hx_inj ad) (I : MI) (J : MJ) (R : Nat) (hR : I 4 1 = nI R) (hR6 : R ≤ 6) : Ct l D ad cy yX4_project cX4_project 1 (some .int) 0 [.ref (ad 0)] I J (hx_is (some (.int (roomR 6 R))) (hx_if (R < 6) (hx_u I 4 1 (nI (R + 1))) I) J) := by
  refine ct_start hi (by decide +kernel) (Nat.le_of_ble_eq_true rfl) (fun X hX hT => ?_)
  show X 0 [(0, .ref (ad 0))] [] I J
  refine wl_aload_n hX 0 rfl dX4_project_0 ?_
  refine gf_X4_3 hX tb_192 dX4_project_1 ?_
  refine gf_X0_1 hX tb_172 dX4_project_4 ?_
  refine wl_eqi (y := nI R) hR ?_
  refine wl_bipush hX (v := 6) dX4_project_7 (by decide) ?_
  refine wl_icmp_lt hX (tgt := 15) dX4_project_9 (by decide) (fun h1 => ?_) (fun h1 => ?_)
  · have k2 : R < 6 := (nI_ltI (b := 6) (by omega) (by omega)).mp h1
    rw [hx_ifp k2] at hT
    refine wl_aload_n hX 0 rfl dX4_project_15 ?_
    refine gf_X4_3 hX tb_192 dX4_project_16 ?_
    refine wl_dup hX dX4_project_19 rfl ?_
    refine gf_X0_1 hX tb_172 dX4_project_20 ?_
    refine wl_eqi (y := nI R) hR ?_
    refine wl_iconst hX (v := 1) dX4_project_23 (by decide) ?_
    refine wl_iadd hX dX4_project_24 ?_
    refine wl_eqi (y := nI (R + 1)) (nI_1 R) ?_
    refine pf_X0_1 hX tb_172 dX4_project_25 ?_
    refine wl_aload_n hX 0 rfl dX4_project_28 ?_
    refine gf_X4_3 hX tb_192 dX4_project_29 ?_
    refine gf_X0_1 hX tb_172 dX4_project_32 ?_
    refine wl_iconst hX (v := 1) dX4_project_35 (by decide) ?_
    refine wl_isub hX dX4_project_36 ?_
    exact wl_ireturn hT dX4_project_37 (hx_ri (by unfold roomR; rw [if_neg (by omega)]; exact nI_pred R))
  · have k2 : 6 ≤ R := Nat.le_of_not_lt (fun z => h1 ((nI_ltI (b := 6) (by omega) (by omega)).mpr z))
    rw [hx_ifn (by omega)] at hT
    refine wl_bipush hX (v := (-104)) dX4_project_12 (by decide) ?_
    exact wl_ireturn hT dX4_project_14 (hx_ri (by unfold roomR; rw [if_pos k2]))

set_option maxHeartbeats 400000 in
theorem c_X4_seed {l : Launch} {D : va_G} {ad : Nat → Nat} {cy : Nat → ClassId} (hi : hx_inj ad) (I : MI) (J : MJ) (x : Int32) : Ct l D ad cy yX4_seed cX4_seed 3 (some .int) 0 [.ref (ad 0), .int x] I J (hx_is (some (.int (I 1 2))) (hx_u I 1 2 x) J) := by
  refine ct_start hi (by decide +kernel) (Nat.le_of_ble_eq_true rfl) (fun X hX hT => ?_)
  show X 0 [(0, .ref (ad 0)), (1, .int x)] [] I J
  refine wl_aload_n hX 0 rfl dX4_seed_0 ?_
  refine gf_X4_0 hX tb_189 dX4_seed_1 ?_
  refine gf_X1_2 hX tb_56 dX4_seed_4 ?_
  refine wl_istore_n hX (lv' := [(2, .int (I 1 2)), (0, .ref (ad 0)), (1, .int x)]) rfl (by decide) dX4_seed_7 ?_
  refine wl_aload_n hX 1 rfl dX4_seed_8 ?_
  refine gf_X4_0 hX tb_189 dX4_seed_9 ?_
  refine wl_iload_n hX 2 rfl dX4_seed_12 ?_
  refine pf_X1_2 hX tb_56 dX4_seed_13 ?_
  refine wl_iload_n hX 0 rfl dX4_seed_16 ?_
  exact wl_ireturn hT dX4_seed_17 ⟨rfl, rfl, rfl⟩

set_option maxHeartbeats 400000 in
theorem c_X4_vote {l : Launch} {D : va_G} {ad : Nat → Nat} {cy : Nat → ClassId} (hi : hx_inj ad) (I : MI) (J : MJ) (x y z : Int32) (P : Nat) (hP : I 1 0 = nI P) (hP12 : P ≤ 12) (Q : Nat) (hQ : I 1 1 = nI Q) (hQ6 : Q ≤ 6) : Ct l D ad cy yX4_vote cX4_vote 6 (some .int) 1 [.ref (ad 0), .int x, .int y, .int z] I J (hx_is (some (.int (voteR P Q (vC I) (I 6) x y z))) (hx_if (voteW P Q (vC I) (I 6) x y z) (hx_u I (33 + xN x) (xN y) z) I) J) := by
  refine ct_start hi (by decide +kernel) (Nat.le_of_ble_eq_true rfl) (fun X hX hT => ?_)
  show X 0 [(0, .ref (ad 0)), (1, .int x), (2, .int y), (3, .int z)] [] I J
  refine wl_aload_n hX 0 rfl dX4_vote_0 ?_
  refine gf_X4_0 hX tb_189 dX4_vote_1 ?_
  refine wl_iload_n hX 1 rfl dX4_vote_4 ?_
  refine wl_cVi hX (c_X1_hasPerson hi I J x) mv_X1_hasPerson tb_229 (by decide) rfl rfl rfl rfl (by omega) (Nat.le_of_ble_eq_true rfl) dX4_vote_5 ?_
  refine wl_eqi (y := inF x (nI P)) (by rw [hP]) ?_
  refine wl_if_eq hX (tgt := 22) dX4_vote_8 (by decide) (fun h1 => ?_) (fun h1 => ?_)
  · rw [hx_ifn (fun w => w.1 (Or.inl h1))] at hT
    refine wl_bipush hX (v := (-101)) dX4_vote_22 (by decide) ?_
    exact wl_ireturn hT dX4_vote_24 (hx_ri (by unfold voteR; rw [if_pos (Or.inl h1)]))
  · refine wl_aload_n hX 0 rfl dX4_vote_11 ?_
    refine gf_X4_0 hX tb_189 dX4_vote_12 ?_
    refine wl_iload_n hX 2 rfl dX4_vote_15 ?_
    refine wl_cVi hX (c_X1_hasQuestion hi I J y) mv_X1_hasQuestion tb_233 (by decide) rfl rfl rfl rfl (by omega) (Nat.le_of_ble_eq_true rfl) dX4_vote_16 ?_
    refine wl_eqi (y := inF y (nI Q)) (by rw [hQ]) ?_
    refine wl_if_ne hX (tgt := 25) dX4_vote_19 (by decide) (fun h2 => ?_) (fun h2 => ?_)
    · have kb : ¬ (inF x (nI P) = 0 ∨ inF y (nI Q) = 0) := fun z => z.elim h1 h2
      obtain ⟨p, hp, rfl⟩ := inF_of (by omega) h1
      obtain ⟨q, hq, rfl⟩ := inF_of (by omega) h2
      have xp : xN (nI p) = p := xN_nI (by omega)
      have xq : xN (nI q) = q := xN_nI (by omega)
      refine wl_iload_n hX 3 rfl dX4_vote_25 ?_
      refine wl_bipush hX (v := (-40)) dX4_vote_26 (by decide) ?_
      refine wl_bipush hX (v := 40) dX4_vote_28 (by decide) ?_
      refine wl_cSi hX (c_X4_isWithin hi I J z (-40) 40) mv_X4_isWithin tb_206 rfl rfl (by omega) (Nat.le_of_ble_eq_true rfl) dX4_vote_30 ?_
      refine wl_if_ne hX (tgt := 39) dX4_vote_33 (by decide) (fun h3 => ?_) (fun h3 => ?_)
      · refine wl_aload_n hX 0 rfl dX4_vote_39 ?_
        refine gf_X4_0 hX tb_189 dX4_vote_40 ?_
        refine gf_X1_5 hX tb_66 dX4_vote_43 ?_
        refine wl_iload_n hX 1 rfl dX4_vote_46 ?_
        refine wl_aald4 hX p kc_8 rfl (by omega) dX4_vote_47 ?_
        refine wl_iload_n hX 2 rfl dX4_vote_48 ?_
        refine wl_iald hX q (kd_33 (by omega)) rfl (by omega) dX4_vote_49 ?_
        refine wl_istore hX (lv' := [(4, .int (I (33 + p) q)), (0, .ref (ad 0)), (1, .int (nI p)), (2, .int (nI q)), (3, .int z)]) rfl (by decide) dX4_vote_50 ?_
        refine wl_aload_n hX 1 rfl dX4_vote_52 ?_
        refine gf_X4_0 hX tb_189 dX4_vote_53 ?_
        refine wl_iload_n hX 2 rfl dX4_vote_56 ?_
        refine wl_cVi hX (c_X1_costOf hi I J p (by omega) Q hQ hQ6) mv_X1_costOf tb_237 (by decide) rfl rfl rfl rfl (by omega) (Nat.le_of_ble_eq_true rfl) dX4_vote_57 ?_
        refine wl_iload hX 0 rfl dX4_vote_60 ?_
        refine wl_iload hX 0 rfl dX4_vote_62 ?_
        refine wl_imul hX dX4_vote_64 ?_
        refine wl_isub hX dX4_vote_65 ?_
        refine wl_iload_n hX 4 rfl dX4_vote_66 ?_
        refine wl_iload_n hX 4 rfl dX4_vote_67 ?_
        refine wl_imul hX dX4_vote_68 ?_
        refine wl_iadd hX dX4_vote_69 ?_
        refine wl_istore hX (lv' := [(5, .int (((costF (vC I) Q p) - ((I (33 + p) q) * (I (33 + p) q))) + (z * z))), (4, .int (I (33 + p) q)), (0, .ref (ad 0)), (1, .int (nI p)), (2, .int (nI q)), (3, .int z)]) rfl (by decide) dX4_vote_70 ?_
        refine wl_iload hX 0 rfl dX4_vote_72 ?_
        refine wl_aload_n hX 2 rfl dX4_vote_74 ?_
        refine gf_X4_0 hX tb_189 dX4_vote_75 ?_
        refine gf_X1_3 hX tb_60 dX4_vote_78 ?_
        refine wl_iload_n hX 3 rfl dX4_vote_81 ?_
        refine wl_iald hX p kc_6 rfl (by omega) dX4_vote_82 ?_
        refine wl_icmp_le hX (tgt := 89) dX4_vote_83 (by decide) (fun h4 => ?_) (fun h4 => ?_)
        · have k4 : ¬ I 6 p < costF (vC I) Q p - I (33 + p) q * I (33 + p) q + z * z := fun w => by rw [Int32.lt_iff_toInt_lt] at w; rw [Int32.le_iff_toInt_le] at h4; omega
          rw [hx_ifp ⟨kb, h3, by rw [xp, xq]; exact k4⟩, xp, xq] at hT
          refine wl_aload_n hX 2 rfl dX4_vote_89 ?_
          refine gf_X4_0 hX tb_189 dX4_vote_90 ?_
          refine gf_X1_5 hX tb_66 dX4_vote_93 ?_
          refine wl_iload_n hX 3 rfl dX4_vote_96 ?_
          refine wl_aald4 hX p kc_8 rfl (by omega) dX4_vote_97 ?_
          refine wl_iload_n hX 4 rfl dX4_vote_98 ?_
          refine wl_iload_n hX 5 rfl dX4_vote_99 ?_
          refine wl_iast hX q (kd_33 (by omega)) rfl (by omega) dX4_vote_100 ?_
          refine wl_iload hX 0 rfl dX4_vote_101 ?_
          exact wl_ireturn hT dX4_vote_103 (hx_ri (by unfold voteR; rw [if_neg kb, if_neg h3, xp, xq]; exact (if_neg k4).symm))
        · have k4 : I 6 p < costF (vC I) Q p - I (33 + p) q * I (33 + p) q + z * z := by rw [Int32.lt_iff_toInt_lt]; rw [Int32.le_iff_toInt_le] at h4; omega
          rw [hx_ifn (fun w => w.2.2 (by rw [xp, xq]; exact k4))] at hT
          refine wl_bipush hX (v := (-103)) dX4_vote_86 (by decide) ?_
          exact wl_ireturn hT dX4_vote_88 (hx_ri (by unfold voteR; rw [if_neg kb, if_neg h3, xp, xq]; exact (if_pos k4).symm))
      · rw [hx_ifn (fun w => w.2.1 h3)] at hT
        refine wl_bipush hX (v := (-102)) dX4_vote_36 (by decide) ?_
        exact wl_ireturn hT dX4_vote_38 (hx_ri (by unfold voteR; rw [if_neg kb, if_pos h3]))
    · rw [hx_ifn (fun w => w.1 (Or.inr h2))] at hT
      refine wl_bipush hX (v := (-101)) dX4_vote_22 (by decide) ?_
      exact wl_ireturn hT dX4_vote_24 (hx_ri (by unfold voteR; rw [if_pos (Or.inr h2)]))

set_option maxHeartbeats 400000 in
theorem c_X4_worth {l : Launch} {D : va_G} {ad : Nat → Nat} {cy : Nat → ClassId} (hi : hx_inj ad) (I : MI) (J : MJ) (x y z : Int32) (P : Nat) (hP : I 1 0 = nI P) (hP12 : P ≤ 12) (Q : Nat) (hQ : I 1 1 = nI Q) (hQ6 : Q ≤ 6) : Ct l D ad cy yX4_worth cX4_worth 5 (some .int) 1 [.ref (ad 0), .int x, .int y, .int z] I J (hx_is (some (.int (wasR P Q (wC I) (-1000) 1000 x y z))) (hx_if (wasW P Q (-1000) 1000 x y z) (hx_u I (45 + xN x) (xN y) z) I) J) := by
  refine ct_start hi (by decide +kernel) (Nat.le_of_ble_eq_true rfl) (fun X hX hT => ?_)
  show X 0 [(0, .ref (ad 0)), (1, .int x), (2, .int y), (3, .int z)] [] I J
  refine wl_aload_n hX 0 rfl dX4_worth_0 ?_
  refine gf_X4_0 hX tb_189 dX4_worth_1 ?_
  refine wl_iload_n hX 1 rfl dX4_worth_4 ?_
  refine wl_cVi hX (c_X1_hasPerson hi I J x) mv_X1_hasPerson tb_229 (by decide) rfl rfl rfl rfl (by omega) (Nat.le_of_ble_eq_true rfl) dX4_worth_5 ?_
  refine wl_eqi (y := inF x (nI P)) (by rw [hP]) ?_
  refine wl_if_eq hX (tgt := 22) dX4_worth_8 (by decide) (fun h1 => ?_) (fun h1 => ?_)
  · rw [hx_ifn (fun w => w.1 (Or.inl h1))] at hT
    refine wl_bipush hX (v := (-101)) dX4_worth_22 (by decide) ?_
    exact wl_ireturn hT dX4_worth_24 (hx_ri (by unfold wasR; rw [if_pos (Or.inl h1)]))
  · refine wl_aload_n hX 0 rfl dX4_worth_11 ?_
    refine gf_X4_0 hX tb_189 dX4_worth_12 ?_
    refine wl_iload_n hX 2 rfl dX4_worth_15 ?_
    refine wl_cVi hX (c_X1_hasQuestion hi I J y) mv_X1_hasQuestion tb_233 (by decide) rfl rfl rfl rfl (by omega) (Nat.le_of_ble_eq_true rfl) dX4_worth_16 ?_
    refine wl_eqi (y := inF y (nI Q)) (by rw [hQ]) ?_
    refine wl_if_ne hX (tgt := 25) dX4_worth_19 (by decide) (fun h2 => ?_) (fun h2 => ?_)
    · have kb : ¬ (inF x (nI P) = 0 ∨ inF y (nI Q) = 0) := fun z => z.elim h1 h2
      obtain ⟨p, hp, rfl⟩ := inF_of (by omega) h1
      obtain ⟨q, hq, rfl⟩ := inF_of (by omega) h2
      have xp : xN (nI p) = p := xN_nI (by omega)
      have xq : xN (nI q) = q := xN_nI (by omega)
      refine wl_iload_n hX 3 rfl dX4_worth_25 ?_
      refine wl_sipush hX (v := (-1000)) dX4_worth_26 (by decide) ?_
      refine wl_sipush hX (v := 1000) dX4_worth_29 (by decide) ?_
      refine wl_cSi hX (c_X4_isWithin hi I J z (-1000) 1000) mv_X4_isWithin tb_206 rfl rfl (by omega) (Nat.le_of_ble_eq_true rfl) dX4_worth_32 ?_
      refine wl_if_ne hX (tgt := 41) dX4_worth_35 (by decide) (fun h3 => ?_) (fun h3 => ?_)
      · rw [hx_ifp ⟨kb, h3⟩, xp, xq] at hT
        refine wl_aload_n hX 0 rfl dX4_worth_41 ?_
        refine gf_X4_0 hX tb_189 dX4_worth_42 ?_
        refine gf_X1_6 hX tb_69 dX4_worth_45 ?_
        refine wl_iload_n hX 1 rfl dX4_worth_48 ?_
        refine wl_aald4 hX p kc_9 rfl (by omega) dX4_worth_49 ?_
        refine wl_iload_n hX 2 rfl dX4_worth_50 ?_
        refine wl_iald hX q (kd_45 (by omega)) rfl (by omega) dX4_worth_51 ?_
        refine wl_istore hX (lv' := [(4, .int (I (45 + p) q)), (0, .ref (ad 0)), (1, .int (nI p)), (2, .int (nI q)), (3, .int z)]) rfl (by decide) dX4_worth_52 ?_
        refine wl_aload_n hX 1 rfl dX4_worth_54 ?_
        refine gf_X4_0 hX tb_189 dX4_worth_55 ?_
        refine gf_X1_6 hX tb_69 dX4_worth_58 ?_
        refine wl_iload_n hX 2 rfl dX4_worth_61 ?_
        refine wl_aald4 hX p kc_9 rfl (by omega) dX4_worth_62 ?_
        refine wl_iload_n hX 3 rfl dX4_worth_63 ?_
        refine wl_iload_n hX 4 rfl dX4_worth_64 ?_
        refine wl_iast hX q (kd_45 (by omega)) rfl (by omega) dX4_worth_65 ?_
        refine wl_iload hX 0 rfl dX4_worth_66 ?_
        exact wl_ireturn hT dX4_worth_68 (hx_ri (by unfold wasR; rw [if_neg kb, if_neg h3, xp, xq]; rfl))
      · rw [hx_ifn (fun w => w.2 h3)] at hT
        refine wl_bipush hX (v := (-102)) dX4_worth_38 (by decide) ?_
        exact wl_ireturn hT dX4_worth_40 (hx_ri (by unfold wasR; rw [if_neg kb, if_pos h3]))
    · rw [hx_ifn (fun w => w.1 (Or.inr h2))] at hT
      refine wl_bipush hX (v := (-101)) dX4_worth_22 (by decide) ?_
      exact wl_ireturn hT dX4_worth_24 (hx_ri (by unfold wasR; rw [if_pos (Or.inr h2)]))

set_option maxHeartbeats 400000 in
theorem c_X4_gift {l : Launch} {D : va_G} {ad : Nat → Nat} {cy : Nat → ClassId} (hi : hx_inj ad) (I : MI) (J : MJ) (x y z : Int32) (P : Nat) (hP : I 1 0 = nI P) (hP12 : P ≤ 12) (R : Nat) (hR : I 4 1 = nI R) (hR6 : R ≤ 6) : Ct l D ad cy yX4_gift cX4_gift 5 (some .int) 1 [.ref (ad 0), .int x, .int y, .int z] I J (hx_is (some (.int (wasR P R (gC I) 0 1000000 x y z))) (hx_if (wasW P R 0 1000000 x y z) (hx_u I (100 + xN x) (xN y) z) I) J) := by
  refine ct_start hi (by decide +kernel) (Nat.le_of_ble_eq_true rfl) (fun X hX hT => ?_)
  show X 0 [(0, .ref (ad 0)), (1, .int x), (2, .int y), (3, .int z)] [] I J
  refine wl_aload_n hX 0 rfl dX4_gift_0 ?_
  refine gf_X4_0 hX tb_189 dX4_gift_1 ?_
  refine wl_iload_n hX 1 rfl dX4_gift_4 ?_
  refine wl_cVi hX (c_X1_hasPerson hi I J x) mv_X1_hasPerson tb_229 (by decide) rfl rfl rfl rfl (by omega) (Nat.le_of_ble_eq_true rfl) dX4_gift_5 ?_
  refine wl_eqi (y := inF x (nI P)) (by rw [hP]) ?_
  refine wl_if_eq hX (tgt := 22) dX4_gift_8 (by decide) (fun h1 => ?_) (fun h1 => ?_)
  · rw [hx_ifn (fun w => w.1 (Or.inl h1))] at hT
    refine wl_bipush hX (v := (-101)) dX4_gift_22 (by decide) ?_
    exact wl_ireturn hT dX4_gift_24 (hx_ri (by unfold wasR; rw [if_pos (Or.inl h1)]))
  · refine wl_aload_n hX 0 rfl dX4_gift_11 ?_
    refine gf_X4_3 hX tb_192 dX4_gift_12 ?_
    refine wl_iload_n hX 2 rfl dX4_gift_15 ?_
    refine wl_cVi hX (c_X0_hasProject hi I J y) mv_X0_hasProject tb_391 (by decide) rfl rfl rfl rfl (by omega) (Nat.le_of_ble_eq_true rfl) dX4_gift_16 ?_
    refine wl_eqi (y := inF y (nI R)) (by rw [hR]) ?_
    refine wl_if_ne hX (tgt := 25) dX4_gift_19 (by decide) (fun h2 => ?_) (fun h2 => ?_)
    · have kb : ¬ (inF x (nI P) = 0 ∨ inF y (nI R) = 0) := fun z => z.elim h1 h2
      obtain ⟨p, hp, rfl⟩ := inF_of (by omega) h1
      obtain ⟨q, hq, rfl⟩ := inF_of (by omega) h2
      have xp : xN (nI p) = p := xN_nI (by omega)
      have xq : xN (nI q) = q := xN_nI (by omega)
      refine wl_iload_n hX 3 rfl dX4_gift_25 ?_
      refine wl_iconst hX (v := 0) dX4_gift_26 (by decide) ?_
      refine wl_ldc hX tb_395 dX4_gift_27 ?_
      refine wl_cSi hX (c_X4_isWithin hi I J z 0 1000000) mv_X4_isWithin tb_206 rfl rfl (by omega) (Nat.le_of_ble_eq_true rfl) dX4_gift_29 ?_
      refine wl_if_ne hX (tgt := 38) dX4_gift_32 (by decide) (fun h3 => ?_) (fun h3 => ?_)
      · rw [hx_ifp ⟨kb, h3⟩, xp, xq] at hT
        refine wl_aload_n hX 0 rfl dX4_gift_38 ?_
        refine gf_X4_3 hX tb_192 dX4_gift_39 ?_
        refine gf_X0_2 hX tb_174 dX4_gift_42 ?_
        refine wl_iload_n hX 1 rfl dX4_gift_45 ?_
        refine wl_aald4 hX p kc_17 rfl (by omega) dX4_gift_46 ?_
        refine wl_iload_n hX 2 rfl dX4_gift_47 ?_
        refine wl_iald hX q (kd_100 (by omega)) rfl (by omega) dX4_gift_48 ?_
        refine wl_istore hX (lv' := [(4, .int (I (100 + p) q)), (0, .ref (ad 0)), (1, .int (nI p)), (2, .int (nI q)), (3, .int z)]) rfl (by decide) dX4_gift_49 ?_
        refine wl_aload_n hX 1 rfl dX4_gift_51 ?_
        refine gf_X4_3 hX tb_192 dX4_gift_52 ?_
        refine gf_X0_2 hX tb_174 dX4_gift_55 ?_
        refine wl_iload_n hX 2 rfl dX4_gift_58 ?_
        refine wl_aald4 hX p kc_17 rfl (by omega) dX4_gift_59 ?_
        refine wl_iload_n hX 3 rfl dX4_gift_60 ?_
        refine wl_iload_n hX 4 rfl dX4_gift_61 ?_
        refine wl_iast hX q (kd_100 (by omega)) rfl (by omega) dX4_gift_62 ?_
        refine wl_iload hX 0 rfl dX4_gift_63 ?_
        exact wl_ireturn hT dX4_gift_65 (hx_ri (by unfold wasR; rw [if_neg kb, if_neg h3, xp, xq]; rfl))
      · rw [hx_ifn (fun w => w.2 h3)] at hT
        refine wl_bipush hX (v := (-102)) dX4_gift_35 (by decide) ?_
        exact wl_ireturn hT dX4_gift_37 (hx_ri (by unfold wasR; rw [if_neg kb, if_pos h3]))
    · rw [hx_ifn (fun w => w.1 (Or.inr h2))] at hT
      refine wl_bipush hX (v := (-101)) dX4_gift_22 (by decide) ?_
      exact wl_ireturn hT dX4_gift_24 (hx_ri (by unfold wasR; rw [if_pos (Or.inr h2)]))

set_option maxHeartbeats 400000 in
theorem c_X4_here {l : Launch} {D : va_G} {ad : Nat → Nat} {cy : Nat → ClassId} (hi : hx_inj ad) (I : MI) (J : MJ) (x z : Int32) (hz : z = 0 ∨ z = 1) (P : Nat) (hP : I 1 0 = nI P) (hP12 : P ≤ 12) : Ct l D ad cy yX4_here cX4_here 4 (some .int) 1 [.ref (ad 0), .int x, .int z] I J (hx_is (some (.int (hereR P (I 7) x))) (hx_if (¬ inF x (nI P) = 0) (hx_u I 7 (xN x) z) I) J) := by
  refine ct_start hi (by decide +kernel) (Nat.le_of_ble_eq_true rfl) (fun X hX hT => ?_)
  show X 0 [(0, .ref (ad 0)), (1, .int x), (2, .int z)] [] I J
  refine wl_aload_n hX 0 rfl dX4_here_0 ?_
  refine gf_X4_0 hX tb_189 dX4_here_1 ?_
  refine wl_iload_n hX 1 rfl dX4_here_4 ?_
  refine wl_cVi hX (c_X1_hasPerson hi I J x) mv_X1_hasPerson tb_229 (by decide) rfl rfl rfl rfl (by omega) (Nat.le_of_ble_eq_true rfl) dX4_here_5 ?_
  refine wl_eqi (y := inF x (nI P)) (by rw [hP]) ?_
  refine wl_if_ne hX (tgt := 14) dX4_here_8 (by decide) (fun h1 => ?_) (fun h1 => ?_)
  · have kb : ¬ inF x (nI P) = 0 := h1
    obtain ⟨p, hp, rfl⟩ := inF_of (by omega) h1
    have xp : xN (nI p) = p := xN_nI (by omega)
    rw [hx_ifp kb, xp] at hT
    refine wl_aload_n hX 0 rfl dX4_here_14 ?_
    refine gf_X4_0 hX tb_189 dX4_here_15 ?_
    refine gf_X1_4 hX tb_63 dX4_here_18 ?_
    refine wl_iload_n hX 1 rfl dX4_here_21 ?_
    refine wl_zald hX p kc_7 rfl (by omega) dX4_here_22 ?_
    refine wl_istore_n hX (lv' := [(3, .int (I 7 p)), (0, .ref (ad 0)), (1, .int (nI p)), (2, .int z)]) rfl (by decide) dX4_here_23 ?_
    refine wl_aload_n hX 1 rfl dX4_here_24 ?_
    refine gf_X4_0 hX tb_189 dX4_here_25 ?_
    refine gf_X1_4 hX tb_63 dX4_here_28 ?_
    refine wl_iload_n hX 2 rfl dX4_here_31 ?_
    refine wl_iload_n hX 3 rfl dX4_here_32 ?_
    refine wl_zast hX p kc_7 rfl (by omega) hz dX4_here_33 ?_
    refine wl_iload_n hX 0 rfl dX4_here_34 ?_
    refine wl_if_eq hX (tgt := 42) dX4_here_35 (by decide) (fun h2 => ?_) (fun h2 => ?_)
    · refine wl_iconst hX (v := 0) dX4_here_42 (by decide) ?_
      exact wl_ireturn hT dX4_here_43 (hx_ri (by unfold hereR; rw [if_neg kb, xp]; unfold onF; rw [if_pos h2]))
    · refine wl_iconst hX (v := 1) dX4_here_38 (by decide) ?_
      refine wl_goto hX (tgt := 43) dX4_here_39 (by decide) ?_
      exact wl_ireturn hT dX4_here_43 (hx_ri (by unfold hereR; rw [if_neg kb, xp]; unfold onF; rw [if_neg h2]))
  · rw [hx_ifn (fun w => w h1)] at hT
    refine wl_bipush hX (v := (-101)) dX4_here_11 (by decide) ?_
    exact wl_ireturn hT dX4_here_13 (hx_ri (by unfold hereR; rw [if_pos h1]))

set_option maxHeartbeats 400000 in
theorem c_X4_voices {l : Launch} {D : va_G} {ad : Nat → Nat} {cy : Nat → ClassId} (hi : hx_inj ad) (I : MI) (J : MJ) (x y : Int32) (P : Nat) (hP : I 1 0 = nI P) (hP12 : P ≤ 12) (Q : Nat) (hQ : I 1 1 = nI Q) (hQ6 : Q ≤ 6) : Ct l D ad cy yX4_voices cX4_voices 3 (some .int) 1 [.ref (ad 0), .int x, .int y] I J (hx_is (some (.int (twoR P Q (-2000) (vC I) x y))) I J) := by
  refine ct_start hi (by decide +kernel) (Nat.le_of_ble_eq_true rfl) (fun X hX hT => ?_)
  show X 0 [(0, .ref (ad 0)), (1, .int x), (2, .int y)] [] I J
  refine wl_aload_n hX 0 rfl dX4_voices_0 ?_
  refine gf_X4_0 hX tb_189 dX4_voices_1 ?_
  refine wl_iload_n hX 1 rfl dX4_voices_4 ?_
  refine wl_cVi hX (c_X1_hasPerson hi I J x) mv_X1_hasPerson tb_229 (by decide) rfl rfl rfl rfl (by omega) (Nat.le_of_ble_eq_true rfl) dX4_voices_5 ?_
  refine wl_eqi (y := inF x (nI P)) (by rw [hP]) ?_
  refine wl_if_eq hX (tgt := 22) dX4_voices_8 (by decide) (fun h1 => ?_) (fun h1 => ?_)
  · refine wl_sipush hX (v := (-2000)) dX4_voices_22 (by decide) ?_
    exact wl_ireturn hT dX4_voices_25 (hx_ri (by unfold twoR; rw [if_pos (Or.inl h1)]))
  · refine wl_aload_n hX 0 rfl dX4_voices_11 ?_
    refine gf_X4_0 hX tb_189 dX4_voices_12 ?_
    refine wl_iload_n hX 2 rfl dX4_voices_15 ?_
    refine wl_cVi hX (c_X1_hasQuestion hi I J y) mv_X1_hasQuestion tb_233 (by decide) rfl rfl rfl rfl (by omega) (Nat.le_of_ble_eq_true rfl) dX4_voices_16 ?_
    refine wl_eqi (y := inF y (nI Q)) (by rw [hQ]) ?_
    refine wl_if_ne hX (tgt := 26) dX4_voices_19 (by decide) (fun h2 => ?_) (fun h2 => ?_)
    · have kb : ¬ (inF x (nI P) = 0 ∨ inF y (nI Q) = 0) := fun z => z.elim h1 h2
      obtain ⟨p, hp, rfl⟩ := inF_of (by omega) h1
      obtain ⟨q, hq, rfl⟩ := inF_of (by omega) h2
      have xp : xN (nI p) = p := xN_nI (by omega)
      have xq : xN (nI q) = q := xN_nI (by omega)
      refine wl_aload_n hX 0 rfl dX4_voices_26 ?_
      refine gf_X4_0 hX tb_189 dX4_voices_27 ?_
      refine gf_X1_5 hX tb_66 dX4_voices_30 ?_
      refine wl_iload_n hX 1 rfl dX4_voices_33 ?_
      refine wl_aald4 hX p kc_8 rfl (by omega) dX4_voices_34 ?_
      refine wl_iload_n hX 2 rfl dX4_voices_35 ?_
      refine wl_iald hX q (kd_33 (by omega)) rfl (by omega) dX4_voices_36 ?_
      exact wl_ireturn hT dX4_voices_37 (hx_ri (by unfold twoR; rw [if_neg kb, xp, xq]; rfl))
    · refine wl_sipush hX (v := (-2000)) dX4_voices_22 (by decide) ?_
      exact wl_ireturn hT dX4_voices_25 (hx_ri (by unfold twoR; rw [if_pos (Or.inr h2)]))

set_option maxHeartbeats 400000 in
theorem c_X4_cost {l : Launch} {D : va_G} {ad : Nat → Nat} {cy : Nat → ClassId} (hi : hx_inj ad) (I : MI) (J : MJ) (x : Int32) (P : Nat) (hP : I 1 0 = nI P) (hP12 : P ≤ 12) (Q : Nat) (hQ : I 1 1 = nI Q) (hQ6 : Q ≤ 6) : Ct l D ad cy yX4_cost cX4_cost 2 (some .int) 1 [.ref (ad 0), .int x] I J (hx_is (some (.int (oneR P (-101) (costF (vC I) Q) x))) I J) := by
  refine ct_start hi (by decide +kernel) (Nat.le_of_ble_eq_true rfl) (fun X hX hT => ?_)
  show X 0 [(0, .ref (ad 0)), (1, .int x)] [] I J
  refine wl_aload_n hX 0 rfl dX4_cost_0 ?_
  refine gf_X4_0 hX tb_189 dX4_cost_1 ?_
  refine wl_iload_n hX 1 rfl dX4_cost_4 ?_
  refine wl_cVi hX (c_X1_hasPerson hi I J x) mv_X1_hasPerson tb_229 (by decide) rfl rfl rfl rfl (by omega) (Nat.le_of_ble_eq_true rfl) dX4_cost_5 ?_
  refine wl_eqi (y := inF x (nI P)) (by rw [hP]) ?_
  refine wl_if_ne hX (tgt := 14) dX4_cost_8 (by decide) (fun h1 => ?_) (fun h1 => ?_)
  · have kb : ¬ inF x (nI P) = 0 := h1
    obtain ⟨p, hp, rfl⟩ := inF_of (by omega) h1
    have xp : xN (nI p) = p := xN_nI (by omega)
    refine wl_aload_n hX 0 rfl dX4_cost_14 ?_
    refine gf_X4_0 hX tb_189 dX4_cost_15 ?_
    refine wl_iload_n hX 1 rfl dX4_cost_18 ?_
    refine wl_cVi hX (c_X1_costOf hi I J p (by omega) Q hQ hQ6) mv_X1_costOf tb_237 (by decide) rfl rfl rfl rfl (by omega) (Nat.le_of_ble_eq_true rfl) dX4_cost_19 ?_
    exact wl_ireturn hT dX4_cost_22 (hx_ri (by unfold oneR; rw [if_neg kb, xp]))
  · refine wl_bipush hX (v := (-101)) dX4_cost_11 (by decide) ?_
    exact wl_ireturn hT dX4_cost_13 (hx_ri (by unfold oneR; rw [if_pos h1]))

set_option maxHeartbeats 400000 in
theorem c_X4_total {l : Launch} {D : va_G} {ad : Nat → Nat} {cy : Nat → ClassId} (hi : hx_inj ad) (I : MI) (J : MJ) (x : Int32) (P : Nat) (hP : I 1 0 = nI P) (hP12 : P ≤ 12) (Q : Nat) (hQ : I 1 1 = nI Q) (hQ6 : Q ≤ 6) : Ct l D ad cy yX4_total cX4_total 2 (some .int) 1 [.ref (ad 0), .int x] I J (hx_is (some (.int (oneR Q (-2000) (countF (I 7) (vC I) P) x))) I J) := by
  refine ct_start hi (by decide +kernel) (Nat.le_of_ble_eq_true rfl) (fun X hX hT => ?_)
  show X 0 [(0, .ref (ad 0)), (1, .int x)] [] I J
  refine wl_aload_n hX 0 rfl dX4_total_0 ?_
  refine gf_X4_0 hX tb_189 dX4_total_1 ?_
  refine wl_iload_n hX 1 rfl dX4_total_4 ?_
  refine wl_cVi hX (c_X1_hasQuestion hi I J x) mv_X1_hasQuestion tb_233 (by decide) rfl rfl rfl rfl (by omega) (Nat.le_of_ble_eq_true rfl) dX4_total_5 ?_
  refine wl_eqi (y := inF x (nI Q)) (by rw [hQ]) ?_
  refine wl_if_ne hX (tgt := 15) dX4_total_8 (by decide) (fun h1 => ?_) (fun h1 => ?_)
  · have kb : ¬ inF x (nI Q) = 0 := h1
    obtain ⟨p, hp, rfl⟩ := inF_of (by omega) h1
    have xp : xN (nI p) = p := xN_nI (by omega)
    refine wl_aload_n hX 0 rfl dX4_total_15 ?_
    refine gf_X4_0 hX tb_189 dX4_total_16 ?_
    refine wl_iload_n hX 1 rfl dX4_total_19 ?_
    refine wl_cVi hX (c_X1_countOf hi I J p (by omega) P hP hP12) mv_X1_countOf tb_261 (by decide) rfl rfl rfl rfl (by omega) (Nat.le_of_ble_eq_true rfl) dX4_total_20 ?_
    exact wl_ireturn hT dX4_total_23 (hx_ri (by unfold oneR; rw [if_neg kb, xp]))
  · refine wl_sipush hX (v := (-2000)) dX4_total_11 (by decide) ?_
    exact wl_ireturn hT dX4_total_14 (hx_ri (by unfold oneR; rw [if_pos h1]))

set_option maxHeartbeats 400000 in
theorem c_X4_gain {l : Launch} {D : va_G} {ad : Nat → Nat} {cy : Nat → ClassId} (hi : hx_inj ad) (I : MI) (J : MJ) (x : Int32) (P : Nat) (hP : I 1 0 = nI P) (hP12 : P ≤ 12) (Q : Nat) (hQ : I 1 1 = nI Q) (hQ6 : Q ≤ 6) : Ct l D ad cy yX4_gain cX4_gain 2 (some .int) 2 [.ref (ad 0), .int x] I J (hx_is (some (.int (oneR P (-2000000) (gainF (I 7) (vC I) (wC I) P Q) x))) I J) := by
  refine ct_start hi (by decide +kernel) (Nat.le_of_ble_eq_true rfl) (fun X hX hT => ?_)
  show X 0 [(0, .ref (ad 0)), (1, .int x)] [] I J
  refine wl_aload_n hX 0 rfl dX4_gain_0 ?_
  refine gf_X4_0 hX tb_189 dX4_gain_1 ?_
  refine wl_iload_n hX 1 rfl dX4_gain_4 ?_
  refine wl_cVi hX (c_X1_hasPerson hi I J x) mv_X1_hasPerson tb_229 (by decide) rfl rfl rfl rfl (by omega) (Nat.le_of_ble_eq_true rfl) dX4_gain_5 ?_
  refine wl_eqi (y := inF x (nI P)) (by rw [hP]) ?_
  refine wl_if_ne hX (tgt := 14) dX4_gain_8 (by decide) (fun h1 => ?_) (fun h1 => ?_)
  · have kb : ¬ inF x (nI P) = 0 := h1
    obtain ⟨p, hp, rfl⟩ := inF_of (by omega) h1
    have xp : xN (nI p) = p := xN_nI (by omega)
    refine wl_aload_n hX 0 rfl dX4_gain_14 ?_
    refine gf_X4_0 hX tb_189 dX4_gain_15 ?_
    refine wl_iload_n hX 1 rfl dX4_gain_18 ?_
    refine wl_cVi hX (c_X1_gainOf hi I J p (by omega) P hP hP12 Q hQ hQ6) mv_X1_gainOf tb_280 (by decide) rfl rfl rfl rfl (by omega) (Nat.le_of_ble_eq_true rfl) dX4_gain_19 ?_
    exact wl_ireturn hT dX4_gain_22 (hx_ri (by unfold oneR; rw [if_neg kb, xp]))
  · refine wl_ldc hX tb_279 dX4_gain_11 ?_
    exact wl_ireturn hT dX4_gain_13 (hx_ri (by unfold oneR; rw [if_pos h1]))

set_option maxHeartbeats 400000 in
theorem c_X4_swings {l : Launch} {D : va_G} {ad : Nat → Nat} {cy : Nat → ClassId} (hi : hx_inj ad) (I : MI) (J : MJ) (x : Int32) (P : Nat) (hP : I 1 0 = nI P) (hP12 : P ≤ 12) (Q : Nat) (hQ : I 1 1 = nI Q) (hQ6 : Q ≤ 6) : Ct l D ad cy yX4_swings cX4_swings 2 (some .int) 3 [.ref (ad 0), .int x] I J (hx_is (some (.int (oneR P (-101) (swF (I 1 2) (I 7) (vC I) P Q) x))) I J) := by
  refine ct_start hi (by decide +kernel) (Nat.le_of_ble_eq_true rfl) (fun X hX hT => ?_)
  show X 0 [(0, .ref (ad 0)), (1, .int x)] [] I J
  refine wl_aload_n hX 0 rfl dX4_swings_0 ?_
  refine gf_X4_0 hX tb_189 dX4_swings_1 ?_
  refine wl_iload_n hX 1 rfl dX4_swings_4 ?_
  refine wl_cVi hX (c_X1_hasPerson hi I J x) mv_X1_hasPerson tb_229 (by decide) rfl rfl rfl rfl (by omega) (Nat.le_of_ble_eq_true rfl) dX4_swings_5 ?_
  refine wl_eqi (y := inF x (nI P)) (by rw [hP]) ?_
  refine wl_if_ne hX (tgt := 14) dX4_swings_8 (by decide) (fun h1 => ?_) (fun h1 => ?_)
  · have kb : ¬ inF x (nI P) = 0 := h1
    obtain ⟨p, hp, rfl⟩ := inF_of (by omega) h1
    have xp : xN (nI p) = p := xN_nI (by omega)
    refine wl_aload_n hX 0 rfl dX4_swings_14 ?_
    refine gf_X4_0 hX tb_189 dX4_swings_15 ?_
    refine wl_iload_n hX 1 rfl dX4_swings_18 ?_
    refine wl_cVi hX (c_X1_swingsOf hi I J p (by omega) P hP hP12 Q hQ hQ6) mv_X1_swingsOf tb_292 (by decide) rfl rfl rfl rfl (by omega) (Nat.le_of_ble_eq_true rfl) dX4_swings_19 ?_
    exact wl_ireturn hT dX4_swings_22 (hx_ri (by unfold oneR; rw [if_neg kb, xp]))
  · refine wl_bipush hX (v := (-101)) dX4_swings_11 (by decide) ?_
    exact wl_ireturn hT dX4_swings_13 (hx_ri (by unfold oneR; rw [if_pos h1]))

set_option maxHeartbeats 400000 in
theorem c_X4_result {l : Launch} {D : va_G} {ad : Nat → Nat} {cy : Nat → ClassId} (hi : hx_inj ad) (I : MI) (J : MJ) (x : Int32) (P : Nat) (hP : I 1 0 = nI P) (hP12 : P ≤ 12) (Q : Nat) (hQ : I 1 1 = nI Q) (hQ6 : Q ≤ 6) : Ct l D ad cy yX4_result cX4_result 2 (some .int) 1 [.ref (ad 0), .int x] I J (hx_is (some (.int (oneR Q (-101) (fun q => resF (I 1 2) q (countF (I 7) (vC I) P q)) x))) I J) := by
  refine ct_start hi (by decide +kernel) (Nat.le_of_ble_eq_true rfl) (fun X hX hT => ?_)
  show X 0 [(0, .ref (ad 0)), (1, .int x)] [] I J
  refine wl_aload_n hX 0 rfl dX4_result_0 ?_
  refine gf_X4_0 hX tb_189 dX4_result_1 ?_
  refine wl_iload_n hX 1 rfl dX4_result_4 ?_
  refine wl_cVi hX (c_X1_hasQuestion hi I J x) mv_X1_hasQuestion tb_233 (by decide) rfl rfl rfl rfl (by omega) (Nat.le_of_ble_eq_true rfl) dX4_result_5 ?_
  refine wl_eqi (y := inF x (nI Q)) (by rw [hQ]) ?_
  refine wl_if_ne hX (tgt := 14) dX4_result_8 (by decide) (fun h1 => ?_) (fun h1 => ?_)
  · have kb : ¬ inF x (nI Q) = 0 := h1
    obtain ⟨p, hp, rfl⟩ := inF_of (by omega) h1
    have xp : xN (nI p) = p := xN_nI (by omega)
    refine wl_aload_n hX 0 rfl dX4_result_14 ?_
    refine gf_X4_0 hX tb_189 dX4_result_15 ?_
    refine wl_iload_n hX 1 rfl dX4_result_18 ?_
    refine wl_aload_n hX 0 rfl dX4_result_19 ?_
    refine gf_X4_0 hX tb_189 dX4_result_20 ?_
    refine wl_iload_n hX 1 rfl dX4_result_23 ?_
    refine wl_cVi hX (c_X1_countOf hi I J p (by omega) P hP hP12) mv_X1_countOf tb_261 (by decide) rfl rfl rfl rfl (by omega) (Nat.le_of_ble_eq_true rfl) dX4_result_24 ?_
    refine wl_cVi hX (c_X1_resultOf hi I J p (countF (I 7) (vC I) P p) (by omega)) mv_X1_resultOf tb_269 (by decide) rfl rfl rfl rfl (by omega) (Nat.le_of_ble_eq_true rfl) dX4_result_27 ?_
    exact wl_ireturn hT dX4_result_30 (hx_ri (by unfold oneR; rw [if_neg kb, xp]))
  · refine wl_bipush hX (v := (-101)) dX4_result_11 (by decide) ?_
    exact wl_ireturn hT dX4_result_13 (hx_ri (by unfold oneR; rw [if_pos h1]))

set_option maxHeartbeats 400000 in
theorem c_X4_best {l : Launch} {D : va_G} {ad : Nat → Nat} {cy : Nat → ClassId} (hi : hx_inj ad) (I : MI) (J : MJ) (x : Int32) (P : Nat) (hP : I 1 0 = nI P) (hP12 : P ≤ 12) (Q : Nat) (hQ : I 1 1 = nI Q) (hQ6 : Q ≤ 6) : Ct l D ad cy yX4_best cX4_best 2 (some .int) 10 [.ref (ad 0), .int x] I J (hx_is (some (.int (oneR P (-2000000) (fun p => ffM I P Q p 2 7) x))) (hx_if (¬ inF x (nI P) = 0) (ffM I P Q (xN x)) I) J) := by
  refine ct_start hi (by decide +kernel) (Nat.le_of_ble_eq_true rfl) (fun X hX hT => ?_)
  show X 0 [(0, .ref (ad 0)), (1, .int x)] [] I J
  refine wl_aload_n hX 0 rfl dX4_best_0 ?_
  refine gf_X4_0 hX tb_189 dX4_best_1 ?_
  refine wl_iload_n hX 1 rfl dX4_best_4 ?_
  refine wl_cVi hX (c_X1_hasPerson hi I J x) mv_X1_hasPerson tb_229 (by decide) rfl rfl rfl rfl (by omega) (Nat.le_of_ble_eq_true rfl) dX4_best_5 ?_
  refine wl_eqi (y := inF x (nI P)) (by rw [hP]) ?_
  refine wl_if_ne hX (tgt := 14) dX4_best_8 (by decide) (fun h1 => ?_) (fun h1 => ?_)
  · have kb : ¬ inF x (nI P) = 0 := h1
    obtain ⟨p, hp, rfl⟩ := inF_of (by omega) h1
    have xp : xN (nI p) = p := xN_nI (by omega)
    rw [hx_ifp kb, xp] at hT
    refine wl_aload_n hX 0 rfl dX4_best_14 ?_
    refine gf_X4_1 hX tb_190 dX4_best_15 ?_
    refine wl_iload_n hX 1 rfl dX4_best_18 ?_
    refine wl_cVv hX (c_X3_findFor hi I J P hP hP12 p hp Q hQ hQ6) mv_X3_findFor tb_305 (by decide) rfl rfl rfl rfl (by omega) (Nat.le_of_ble_eq_true rfl) dX4_best_19 ?_
    refine wl_aload_n hX 0 rfl dX4_best_22 ?_
    refine gf_X4_1 hX tb_190 dX4_best_23 ?_
    refine gf_X3_7 hX tb_104 dX4_best_26 ?_
    exact wl_ireturn hT dX4_best_29 (hx_ri (by unfold oneR; rw [if_neg kb, xp]))
  · rw [hx_ifn (fun w => w h1)] at hT
    refine wl_ldc hX tb_279 dX4_best_11 ?_
    exact wl_ireturn hT dX4_best_13 (hx_ri (by unfold oneR; rw [if_pos h1]))

set_option maxHeartbeats 400000 in
theorem c_X4_answer {l : Launch} {D : va_G} {ad : Nat → Nat} {cy : Nat → ClassId} (hi : hx_inj ad) (I : MI) (J : MJ) (x y : Int32) (P : Nat) (hP : I 1 0 = nI P) (hP12 : P ≤ 12) (Q : Nat) (hQ : I 1 1 = nI Q) (hQ6 : Q ≤ 6) : Ct l D ad cy yX4_answer cX4_answer 3 (some .int) 10 [.ref (ad 0), .int x, .int y] I J (hx_is (some (.int (twoR P Q (-2000) (fun p q => ffM I P Q p 15 q) x y))) (hx_if (¬ (inF x (nI P) = 0 ∨ inF y (nI Q) = 0)) (ffM I P Q (xN x)) I) J) := by
  refine ct_start hi (by decide +kernel) (Nat.le_of_ble_eq_true rfl) (fun X hX hT => ?_)
  show X 0 [(0, .ref (ad 0)), (1, .int x), (2, .int y)] [] I J
  refine wl_aload_n hX 0 rfl dX4_answer_0 ?_
  refine gf_X4_0 hX tb_189 dX4_answer_1 ?_
  refine wl_iload_n hX 1 rfl dX4_answer_4 ?_
  refine wl_cVi hX (c_X1_hasPerson hi I J x) mv_X1_hasPerson tb_229 (by decide) rfl rfl rfl rfl (by omega) (Nat.le_of_ble_eq_true rfl) dX4_answer_5 ?_
  refine wl_eqi (y := inF x (nI P)) (by rw [hP]) ?_
  refine wl_if_eq hX (tgt := 22) dX4_answer_8 (by decide) (fun h1 => ?_) (fun h1 => ?_)
  · rw [hx_ifn (fun w => w (Or.inl h1))] at hT
    refine wl_sipush hX (v := (-2000)) dX4_answer_22 (by decide) ?_
    exact wl_ireturn hT dX4_answer_25 (hx_ri (by unfold twoR; rw [if_pos (Or.inl h1)]))
  · refine wl_aload_n hX 0 rfl dX4_answer_11 ?_
    refine gf_X4_0 hX tb_189 dX4_answer_12 ?_
    refine wl_iload_n hX 2 rfl dX4_answer_15 ?_
    refine wl_cVi hX (c_X1_hasQuestion hi I J y) mv_X1_hasQuestion tb_233 (by decide) rfl rfl rfl rfl (by omega) (Nat.le_of_ble_eq_true rfl) dX4_answer_16 ?_
    refine wl_eqi (y := inF y (nI Q)) (by rw [hQ]) ?_
    refine wl_if_ne hX (tgt := 26) dX4_answer_19 (by decide) (fun h2 => ?_) (fun h2 => ?_)
    · have kb : ¬ (inF x (nI P) = 0 ∨ inF y (nI Q) = 0) := fun z => z.elim h1 h2
      obtain ⟨p, hp, rfl⟩ := inF_of (by omega) h1
      obtain ⟨q, hq, rfl⟩ := inF_of (by omega) h2
      have xp : xN (nI p) = p := xN_nI (by omega)
      have xq : xN (nI q) = q := xN_nI (by omega)
      rw [hx_ifp kb, xp] at hT
      refine wl_aload_n hX 0 rfl dX4_answer_26 ?_
      refine gf_X4_1 hX tb_190 dX4_answer_27 ?_
      refine wl_iload_n hX 1 rfl dX4_answer_30 ?_
      refine wl_cVv hX (c_X3_findFor hi I J P hP hP12 p hp Q hQ hQ6) mv_X3_findFor tb_305 (by decide) rfl rfl rfl rfl (by omega) (Nat.le_of_ble_eq_true rfl) dX4_answer_31 ?_
      refine wl_aload_n hX 0 rfl dX4_answer_34 ?_
      refine gf_X4_1 hX tb_190 dX4_answer_35 ?_
      refine gf_X3_6 hX tb_101 dX4_answer_38 ?_
      refine wl_iload_n hX 2 rfl dX4_answer_41 ?_
      refine wl_iald hX q kc_15 rfl (by omega) dX4_answer_42 ?_
      exact wl_ireturn hT dX4_answer_43 (hx_ri (by unfold twoR; rw [if_neg kb, xp, xq]))
    · rw [hx_ifn (fun w => w (Or.inr h2))] at hT
      refine wl_sipush hX (v := (-2000)) dX4_answer_22 (by decide) ?_
      exact wl_ireturn hT dX4_answer_25 (hx_ri (by unfold twoR; rw [if_pos (Or.inr h2)]))

set_option maxHeartbeats 400000 in
theorem c_X4_take {l : Launch} {D : va_G} {ad : Nat → Nat} {cy : Nat → ClassId} (hi : hx_inj ad) (I : MI) (J : MJ) (x : Int32) (P : Nat) (hP : I 1 0 = nI P) (hP12 : P ≤ 12) (Q : Nat) (hQ : I 1 1 = nI Q) (hQ6 : Q ≤ 6) : Ct l D ad cy yX4_take cX4_take 2 (some .int) 10 [.ref (ad 0), .int x] I J (hx_is (some (.int (takeR P (I 7) (fun p => costF (vC (hx_cp (ffM I P Q p) 15 (33 + p) Q)) Q p) x))) (hx_if (takeW P (I 7) x) (hx_cp (ffM I P Q (xN x)) 15 (33 + xN x) Q) I) J) := by
  refine ct_start hi (by decide +kernel) (Nat.le_of_ble_eq_true rfl) (fun X hX hT => ?_)
  show X 0 [(0, .ref (ad 0)), (1, .int x)] [] I J
  refine wl_aload_n hX 0 rfl dX4_take_0 ?_
  refine gf_X4_0 hX tb_189 dX4_take_1 ?_
  refine wl_iload_n hX 1 rfl dX4_take_4 ?_
  refine wl_cVi hX (c_X1_hasPerson hi I J x) mv_X1_hasPerson tb_229 (by decide) rfl rfl rfl rfl (by omega) (Nat.le_of_ble_eq_true rfl) dX4_take_5 ?_
  refine wl_eqi (y := inF x (nI P)) (by rw [hP]) ?_
  refine wl_if_ne hX (tgt := 14) dX4_take_8 (by decide) (fun h1 => ?_) (fun h1 => ?_)
  · have kb : ¬ inF x (nI P) = 0 := h1
    obtain ⟨p, hp, rfl⟩ := inF_of (by omega) h1
    have xp : xN (nI p) = p := xN_nI (by omega)
    refine wl_aload_n hX 0 rfl dX4_take_14 ?_
    refine gf_X4_0 hX tb_189 dX4_take_15 ?_
    refine gf_X1_4 hX tb_63 dX4_take_18 ?_
    refine wl_iload_n hX 1 rfl dX4_take_21 ?_
    refine wl_zald hX p kc_7 rfl (by omega) dX4_take_22 ?_
    refine wl_if_ne hX (tgt := 29) dX4_take_23 (by decide) (fun h2 => ?_) (fun h2 => ?_)
    · rw [hx_ifp ⟨kb, by rw [xp]; exact h2⟩, xp] at hT
      refine wl_aload_n hX 0 rfl dX4_take_29 ?_
      refine gf_X4_1 hX tb_190 dX4_take_30 ?_
      refine wl_iload_n hX 1 rfl dX4_take_33 ?_
      refine wl_cVv hX (c_X3_findFor hi I J P hP hP12 p hp Q hQ hQ6) mv_X3_findFor tb_305 (by decide) rfl rfl rfl rfl (by omega) (Nat.le_of_ble_eq_true rfl) dX4_take_34 ?_
      have f2 : ffM I P Q p 1 1 = nI Q := by rw [ffM_ne hQ6 (by unfold scrC; omega)]; exact hQ
      refine wl_aload_n hX 0 rfl dX4_take_37 ?_
      refine gf_X4_1 hX tb_190 dX4_take_38 ?_
      refine wl_iload_n hX 1 rfl dX4_take_41 ?_
      refine wl_cVv hX (c_X3_giveTo hi (ffM I P Q p) J p (by omega) Q f2 hQ6) mv_X3_giveTo tb_342 (by decide) rfl rfl rfl rfl (by omega) (Nat.le_of_ble_eq_true rfl) dX4_take_42 ?_
      refine wl_aload_n hX 0 rfl dX4_take_45 ?_
      refine gf_X4_0 hX tb_189 dX4_take_46 ?_
      refine wl_iload_n hX 1 rfl dX4_take_49 ?_
      refine wl_cVi hX (c_X1_costOf hi (hx_cp (ffM I P Q p) 15 (33 + p) Q) J p (by omega) Q (by rw [hx_cp_ne (by omega)]; exact f2) hQ6) mv_X1_costOf tb_237 (by decide) rfl rfl rfl rfl (by omega) (Nat.le_of_ble_eq_true rfl) dX4_take_50 ?_
      exact wl_ireturn hT dX4_take_53 (hx_ri (by unfold takeR; rw [if_neg kb, xp, if_neg h2]))
    · rw [hx_ifn (fun w => w.2 (by rw [xp]; exact h2))] at hT
      refine wl_bipush hX (v := (-103)) dX4_take_26 (by decide) ?_
      exact wl_ireturn hT dX4_take_28 (hx_ri (by unfold takeR; rw [if_neg kb, xp, if_pos h2]))
  · rw [hx_ifn (fun w => w.1 h1)] at hT
    refine wl_bipush hX (v := (-101)) dX4_take_11 (by decide) ?_
    exact wl_ireturn hT dX4_take_13 (hx_ri (by unfold takeR; rw [if_pos h1]))

set_option maxHeartbeats 400000 in
theorem c_X4_play {l : Launch} {D : va_G} {ad : Nat → Nat} {cy : Nat → ClassId} (hi : hx_inj ad) (I : MI) (J : MJ) (x : Int32) (P : Nat) (hP : I 1 0 = nI P) (hP12 : P ≤ 12) (Q : Nat) (hQ : I 1 1 = nI Q) (hQ6 : Q ≤ 6) : Ct l D ad cy yX4_play cX4_play 2 (some .int) 12 [.ref (ad 0), .int x] I J (hx_is (some (.int (playR (fun N => nI (plF P Q N 0 (pl0 I, ntF (pl0 I) P Q 0 J)).1) x))) (hx_if (¬ withinF x 1 30 = 0) (plF P Q (xN x) 0 (pl0 I, ntF (pl0 I) P Q 0 J)).2.1 I) (hx_if (¬ withinF x 1 30 = 0) (plF P Q (xN x) 0 (pl0 I, ntF (pl0 I) P Q 0 J)).2.2 J)) := by
  refine ct_start hi (by decide +kernel) (Nat.le_of_ble_eq_true rfl) (fun X hX hT => ?_)
  show X 0 [(0, .ref (ad 0)), (1, .int x)] [] I J
  refine wl_iload_n hX 1 rfl dX4_play_0 ?_
  refine wl_iconst hX (v := 1) dX4_play_1 (by decide) ?_
  refine wl_bipush hX (v := 30) dX4_play_2 (by decide) ?_
  refine wl_cSi hX (c_X4_isWithin hi I J x 1 30) mv_X4_isWithin tb_206 rfl rfl (by omega) (Nat.le_of_ble_eq_true rfl) dX4_play_4 ?_
  refine wl_if_ne hX (tgt := 13) dX4_play_7 (by decide) (fun h1 => ?_) (fun h1 => ?_)
  · have k1 := within_of h1
    rw [hx_ifp h1, hx_ifp h1] at hT
    obtain ⟨N, hN, rfl⟩ := nI_of2 (x := x) (M := 30) (n := 30) (by decide) (fun w => by have w1 := Int32.le_iff_toInt_le.mp k1.1; rw [Int32.lt_iff_toInt_lt] at w; have e0 : (0 : Int32).toInt = 0 := (by decide); have e1 : (1 : Int32).toInt = 1 := (by decide); omega) k1.2
    have xp : xN (nI N) = N := xN_nI (by omega)
    rw [xp] at hT
    refine wl_aload_n hX 0 rfl dX4_play_13 ?_
    refine gf_X4_2 hX tb_191 dX4_play_14 ?_
    refine wl_iload_n hX 1 rfl dX4_play_17 ?_
    refine wl_cVi hX (c_X2_playAtMost hi I J N hN P hP hP12 Q hQ hQ6) mv_X2_playAtMost tb_350 (by decide) rfl rfl rfl rfl (by omega) (Nat.le_of_ble_eq_true rfl) dX4_play_18 ?_
    exact wl_ireturn hT dX4_play_21 (hx_ri (by unfold playR; rw [if_neg h1, xp]))
  · rw [hx_ifn (fun w => w h1), hx_ifn (fun w => w h1)] at hT
    refine wl_bipush hX (v := (-102)) dX4_play_10 (by decide) ?_
    exact wl_ireturn hT dX4_play_12 (hx_ri (by unfold playR; rw [if_pos h1]))

set_option maxHeartbeats 400000 in
theorem c_X4_ended {l : Launch} {D : va_G} {ad : Nat → Nat} {cy : Nat → ClassId} (hi : hx_inj ad) (I : MI) (J : MJ)  : Ct l D ad cy yX4_ended cX4_ended 1 (some .int) 0 [.ref (ad 0)] I J (hx_is (some (.int (I 3 5))) I J) := by
  refine ct_start hi (by decide +kernel) (Nat.le_of_ble_eq_true rfl) (fun X hX hT => ?_)
  show X 0 [(0, .ref (ad 0))] [] I J
  refine wl_aload_n hX 0 rfl dX4_ended_0 ?_
  refine gf_X4_2 hX tb_191 dX4_ended_1 ?_
  refine gf_X2_5 hX tb_144 dX4_ended_4 ?_
  exact wl_ireturn hT dX4_ended_7 (hx_ri rfl)

set_option maxHeartbeats 400000 in
theorem c_X4_ring {l : Launch} {D : va_G} {ad : Nat → Nat} {cy : Nat → ClassId} (hi : hx_inj ad) (I : MI) (J : MJ)  : Ct l D ad cy yX4_ring cX4_ring 1 (some .int) 0 [.ref (ad 0)] I J (hx_is (some (.int (I 3 6))) I J) := by
  refine ct_start hi (by decide +kernel) (Nat.le_of_ble_eq_true rfl) (fun X hX hT => ?_)
  show X 0 [(0, .ref (ad 0))] [] I J
  refine wl_aload_n hX 0 rfl dX4_ring_0 ?_
  refine gf_X4_2 hX tb_191 dX4_ring_1 ?_
  refine gf_X2_6 hX tb_146 dX4_ring_4 ?_
  exact wl_ireturn hT dX4_ring_7 (hx_ri rfl)

set_option maxHeartbeats 400000 in
theorem c_X4_bond {l : Launch} {D : va_G} {ad : Nat → Nat} {cy : Nat → ClassId} (hi : hx_inj ad) (I : MI) (J : MJ) (x y z : Int32) (P : Nat) (hP : I 1 0 = nI P) (hP12 : P ≤ 12) : Ct l D ad cy yX4_bond cX4_bond 5 (some .int) 1 [.ref (ad 0), .int x, .int y, .int z] I J (hx_is (some (.int (bondR P (bC I) x y z))) (hx_if (bondW P x y z) (hx_u (hx_u I (112 + xN x) (xN y) z) (112 + xN y) (xN x) z) I) J) := by
  refine ct_start hi (by decide +kernel) (Nat.le_of_ble_eq_true rfl) (fun X hX hT => ?_)
  show X 0 [(0, .ref (ad 0)), (1, .int x), (2, .int y), (3, .int z)] [] I J
  refine wl_aload_n hX 0 rfl dX4_bond_0 ?_
  refine gf_X4_0 hX tb_189 dX4_bond_1 ?_
  refine wl_iload_n hX 1 rfl dX4_bond_4 ?_
  refine wl_cVi hX (c_X1_hasPerson hi I J x) mv_X1_hasPerson tb_229 (by decide) rfl rfl rfl rfl (by omega) (Nat.le_of_ble_eq_true rfl) dX4_bond_5 ?_
  refine wl_eqi (y := inF x (nI P)) (by rw [hP]) ?_
  refine wl_if_eq hX (tgt := 22) dX4_bond_8 (by decide) (fun h1 => ?_) (fun h1 => ?_)
  · rw [hx_ifn (fun w => w.1 (Or.inl h1))] at hT
    refine wl_bipush hX (v := (-101)) dX4_bond_22 (by decide) ?_
    exact wl_ireturn hT dX4_bond_24 (hx_ri (by unfold bondR; rw [if_pos (Or.inl h1)]))
  · refine wl_aload_n hX 0 rfl dX4_bond_11 ?_
    refine gf_X4_0 hX tb_189 dX4_bond_12 ?_
    refine wl_iload_n hX 2 rfl dX4_bond_15 ?_
    refine wl_cVi hX (c_X1_hasPerson hi I J y) mv_X1_hasPerson tb_229 (by decide) rfl rfl rfl rfl (by omega) (Nat.le_of_ble_eq_true rfl) dX4_bond_16 ?_
    refine wl_eqi (y := inF y (nI P)) (by rw [hP]) ?_
    refine wl_if_ne hX (tgt := 25) dX4_bond_19 (by decide) (fun h2 => ?_) (fun h2 => ?_)
    · have kb : ¬ (inF x (nI P) = 0 ∨ inF y (nI P) = 0) := fun z => z.elim h1 h2
      obtain ⟨p, hp, rfl⟩ := inF_of (by omega) h1
      obtain ⟨q, hq, rfl⟩ := inF_of (by omega) h2
      have xp : xN (nI p) = p := xN_nI (by omega)
      have xq : xN (nI q) = q := xN_nI (by omega)
      refine wl_iload_n hX 1 rfl dX4_bond_25 ?_
      refine wl_iload_n hX 2 rfl dX4_bond_26 ?_
      refine wl_icmp_eq hX (tgt := 41) dX4_bond_27 (by decide) (fun h3 => ?_) (fun h3 => ?_)
      · rw [hx_ifn (fun w => w.2 (Or.inl h3))] at hT
        refine wl_bipush hX (v := (-102)) dX4_bond_41 (by decide) ?_
        exact wl_ireturn hT dX4_bond_43 (hx_ri (by unfold bondR; rw [if_neg kb, if_pos (Or.inl h3)]))
      · refine wl_iload_n hX 3 rfl dX4_bond_30 ?_
        refine wl_iconst hX (v := 0) dX4_bond_31 (by decide) ?_
        refine wl_sipush hX (v := 1000) dX4_bond_32 (by decide) ?_
        refine wl_cSi hX (c_X4_isWithin hi I J z 0 1000) mv_X4_isWithin tb_206 rfl rfl (by omega) (Nat.le_of_ble_eq_true rfl) dX4_bond_35 ?_
        refine wl_if_ne hX (tgt := 44) dX4_bond_38 (by decide) (fun h4 => ?_) (fun h4 => ?_)
        · rw [hx_ifp ⟨kb, fun w => w.elim h3 h4⟩, xp, xq] at hT
          refine wl_aload_n hX 0 rfl dX4_bond_44 ?_
          refine gf_X4_3 hX tb_192 dX4_bond_45 ?_
          refine gf_X0_3 hX tb_176 dX4_bond_48 ?_
          refine wl_iload_n hX 1 rfl dX4_bond_51 ?_
          refine wl_aald4 hX p kc_18 rfl (by omega) dX4_bond_52 ?_
          refine wl_iload_n hX 2 rfl dX4_bond_53 ?_
          refine wl_iald hX q (kd_112 (by omega)) rfl (by omega) dX4_bond_54 ?_
          refine wl_istore hX (lv' := [(4, .int (I (112 + p) q)), (0, .ref (ad 0)), (1, .int (nI p)), (2, .int (nI q)), (3, .int z)]) rfl (by decide) dX4_bond_55 ?_
          refine wl_aload_n hX 1 rfl dX4_bond_57 ?_
          refine gf_X4_3 hX tb_192 dX4_bond_58 ?_
          refine gf_X0_3 hX tb_176 dX4_bond_61 ?_
          refine wl_iload_n hX 2 rfl dX4_bond_64 ?_
          refine wl_aald4 hX p kc_18 rfl (by omega) dX4_bond_65 ?_
          refine wl_iload_n hX 3 rfl dX4_bond_66 ?_
          refine wl_iload_n hX 4 rfl dX4_bond_67 ?_
          refine wl_iast hX q (kd_112 (by omega)) rfl (by omega) dX4_bond_68 ?_
          refine wl_aload_n hX 1 rfl dX4_bond_69 ?_
          refine gf_X4_3 hX tb_192 dX4_bond_70 ?_
          refine gf_X0_3 hX tb_176 dX4_bond_73 ?_
          refine wl_iload_n hX 3 rfl dX4_bond_76 ?_
          refine wl_aald4 hX q kc_18 rfl (by omega) dX4_bond_77 ?_
          refine wl_iload_n hX 2 rfl dX4_bond_78 ?_
          refine wl_iload_n hX 4 rfl dX4_bond_79 ?_
          refine wl_iast hX p (kd_112 (by omega)) rfl (by omega) dX4_bond_80 ?_
          refine wl_iload hX 0 rfl dX4_bond_81 ?_
          exact wl_ireturn hT dX4_bond_83 (hx_ri (by unfold bondR; rw [if_neg kb, if_neg (fun w => w.elim h3 h4), xp, xq]; rfl))
        · rw [hx_ifn (fun w => w.2 (Or.inr h4))] at hT
          refine wl_bipush hX (v := (-102)) dX4_bond_41 (by decide) ?_
          exact wl_ireturn hT dX4_bond_43 (hx_ri (by unfold bondR; rw [if_neg kb, if_pos (Or.inr h4)]))
    · rw [hx_ifn (fun w => w.1 (Or.inr h2))] at hT
      refine wl_bipush hX (v := (-101)) dX4_bond_22 (by decide) ?_
      exact wl_ireturn hT dX4_bond_24 (hx_ri (by unfold bondR; rw [if_pos (Or.inr h2)]))

set_option maxHeartbeats 400000 in
theorem c_X4_matched {l : Launch} {D : va_G} {ad : Nat → Nat} {cy : Nat → ClassId} (hi : hx_inj ad) (I : MI) (J : MJ) (x z : Int32) (P : Nat) (hP : I 1 0 = nI P) (hP12 : P ≤ 12) (R : Nat) (hR : I 4 1 = nI R) (hR6 : R ≤ 6) : Ct l D ad cy yX4_matched cX4_matched 3 (some .long) 3 [.ref (ad 0), .int x, .int z] I J (hx_is (some (.long (matchedR R (mLowF (gC I) (bC I) P) (mHighF (gC I) (bC I) P) x z))) I J) := by
  refine ct_start hi (by decide +kernel) (Nat.le_of_ble_eq_true rfl) (fun X hX hT => ?_)
  show X 0 [(0, .ref (ad 0)), (1, .int x), (2, .int z)] [] I J
  refine wl_aload_n hX 0 rfl dX4_matched_0 ?_
  refine gf_X4_3 hX tb_192 dX4_matched_1 ?_
  refine wl_iload_n hX 1 rfl dX4_matched_4 ?_
  refine wl_cVi hX (c_X0_hasProject hi I J x) mv_X0_hasProject tb_391 (by decide) rfl rfl rfl rfl (by omega) (Nat.le_of_ble_eq_true rfl) dX4_matched_5 ?_
  refine wl_eqi (y := inF x (nI R)) (by rw [hR]) ?_
  refine wl_if_ne hX (tgt := 15) dX4_matched_8 (by decide) (fun h1 => ?_) (fun h1 => ?_)
  · have kb : ¬ inF x (nI R) = 0 := h1
    obtain ⟨p, hp, rfl⟩ := inF_of (by omega) h1
    have xp : xN (nI p) = p := xN_nI (by omega)
    refine wl_iload_n hX 2 rfl dX4_matched_15 ?_
    refine wl_iconst hX (v := 0) dX4_matched_16 (by decide) ?_
    refine wl_iconst hX (v := 1) dX4_matched_17 (by decide) ?_
    refine wl_cSi hX (c_X4_isWithin hi I J z 0 1) mv_X4_isWithin tb_206 rfl rfl (by omega) (Nat.le_of_ble_eq_true rfl) dX4_matched_18 ?_
    refine wl_if_ne hX (tgt := 28) dX4_matched_21 (by decide) (fun h3 => ?_) (fun h3 => ?_)
    · refine wl_iload_n hX 2 rfl dX4_matched_28 ?_
      refine wl_if_ne hX (tgt := 43) dX4_matched_29 (by decide) (fun h4 => ?_) (fun h4 => ?_)
      · refine wl_aload_n hX 0 rfl dX4_matched_43 ?_
        refine gf_X4_3 hX tb_192 dX4_matched_44 ?_
        refine wl_iload_n hX 1 rfl dX4_matched_47 ?_
        refine wl_cVl hX (c_X0_matchedHigh hi I J p (by omega) P hP hP12) mv_X0_matchedHigh tb_421 (by decide) rfl rfl rfl rfl (by omega) (Nat.le_of_ble_eq_true rfl) dX4_matched_48 ?_
        exact wl_lreturn hT dX4_matched_51 (hx_rl (by unfold matchedR; rw [if_neg kb, if_neg h3, xp, if_neg h4]))
      · refine wl_aload_n hX 0 rfl dX4_matched_32 ?_
        refine gf_X4_3 hX tb_192 dX4_matched_33 ?_
        refine wl_iload_n hX 1 rfl dX4_matched_36 ?_
        refine wl_cVl hX (c_X0_matchedLow hi I J p (by omega) P hP hP12) mv_X0_matchedLow tb_406 (by decide) rfl rfl rfl rfl (by omega) (Nat.le_of_ble_eq_true rfl) dX4_matched_37 ?_
        refine wl_goto hX (tgt := 51) dX4_matched_40 (by decide) ?_
        exact wl_lreturn hT dX4_matched_51 (hx_rl (by unfold matchedR; rw [if_neg kb, if_neg h3, xp, if_pos h4]))
    · refine wl_ldc2 hX tb_405 dX4_matched_24 ?_
      exact wl_lreturn hT dX4_matched_27 (hx_rl (by unfold matchedR; rw [if_neg kb, if_pos h3]))
  · refine wl_ldc2 hX tb_404 dX4_matched_11 ?_
    exact wl_lreturn hT dX4_matched_14 (hx_rl (by unfold matchedR; rw [if_pos h1]))

set_option maxHeartbeats 400000 in
theorem c_X4_share {l : Launch} {D : va_G} {ad : Nat → Nat} {cy : Nat → ClassId} (hi : hx_inj ad) (I : MI) (J : MJ) (x : Int32) (pot : Int64) (P : Nat) (hP : I 1 0 = nI P) (hP12 : P ≤ 12) (R : Nat) (hR : I 4 1 = nI R) (hR6 : R ≤ 6) : Ct l D ad cy yX4_share cX4_share 4 (some .long) 3 [.ref (ad 0), .int x, .long pot] I J (hx_is (some (.long (shareR R (fun j z => shareF (mLowF (gC I) (bC I) P) R j z) x pot))) I (hx_if (shareW R x pot) (lwJ J 19 (mLowF (gC I) (bC I) P) R) J)) := by
  refine ct_start hi (by decide +kernel) (Nat.le_of_ble_eq_true rfl) (fun X hX hT => ?_)
  show X 0 [(0, .ref (ad 0)), (1, .int x), (2, .long pot)] [] I J
  refine wl_aload_n hX 0 rfl dX4_share_0 ?_
  refine gf_X4_3 hX tb_192 dX4_share_1 ?_
  refine wl_iload_n hX 1 rfl dX4_share_4 ?_
  refine wl_cVi hX (c_X0_hasProject hi I J x) mv_X0_hasProject tb_391 (by decide) rfl rfl rfl rfl (by omega) (Nat.le_of_ble_eq_true rfl) dX4_share_5 ?_
  refine wl_eqi (y := inF x (nI R)) (by rw [hR]) ?_
  refine wl_if_ne hX (tgt := 15) dX4_share_8 (by decide) (fun h1 => ?_) (fun h1 => ?_)
  · have kb : ¬ inF x (nI R) = 0 := h1
    obtain ⟨p, hp, rfl⟩ := inF_of (by omega) h1
    have xp : xN (nI p) = p := xN_nI (by omega)
    refine wl_lload_n hX 2 rfl dX4_share_15 ?_
    refine wl_lconst hX (v := 0) dX4_share_16 (by decide) ?_
    refine wl_lif_lt hX (tgt := 29) dX4_share_17 dX4_share_18 (by decide) (fun h3 => ?_) (fun h3 => ?_)
    · rw [hx_ifn (fun w => w.2 (Or.inl h3))] at hT
      refine wl_ldc2 hX tb_405 dX4_share_29 ?_
      exact wl_lreturn hT dX4_share_32 (hx_rl (by unfold shareR; rw [if_neg kb, if_pos (Or.inl h3)]))
    · refine wl_lload_n hX 2 rfl dX4_share_21 ?_
      refine wl_ldc2 hX tb_432 dX4_share_22 ?_
      refine wl_lif_le hX (tgt := 33) dX4_share_25 dX4_share_26 (by decide) (fun h4 => ?_) (fun h4 => ?_)
      · have k4 : ¬ (pot < 0 ∨ 1000000000 < pot) := fun w => w.elim h3 (fun y => by rw [Int64.lt_iff_toInt_lt] at y; rw [Int64.le_iff_toInt_le] at h4; omega)
        rw [hx_ifp ⟨kb, k4⟩] at hT
        refine wl_aload_n hX 0 rfl dX4_share_33 ?_
        refine gf_X4_3 hX tb_192 dX4_share_34 ?_
        refine wl_iload_n hX 1 rfl dX4_share_37 ?_
        refine wl_lload_n hX 2 rfl dX4_share_38 ?_
        refine wl_cVl hX (c_X0_shareOf hi I J p pot P hP hP12 R hR hR6 hp) mv_X0_shareOf tb_433 (by decide) rfl rfl rfl rfl (by omega) (Nat.le_of_ble_eq_true rfl) dX4_share_39 ?_
        exact wl_lreturn hT dX4_share_42 (hx_rl (by unfold shareR; rw [if_neg kb, if_neg k4, xp]))
      · rw [hx_ifn (fun w => w.2 (Or.inr (by rw [Int64.lt_iff_toInt_lt]; rw [Int64.le_iff_toInt_le] at h4; omega)))] at hT
        refine wl_ldc2 hX tb_405 dX4_share_29 ?_
        exact wl_lreturn hT dX4_share_32 (hx_rl (by unfold shareR; rw [if_neg kb, if_pos (Or.inr (by rw [Int64.lt_iff_toInt_lt]; rw [Int64.le_iff_toInt_le] at h4; omega))]))
  · rw [hx_ifn (fun w => w.1 h1)] at hT
    refine wl_ldc2 hX tb_404 dX4_share_11 ?_
    exact wl_lreturn hT dX4_share_14 (hx_rl (by unfold shareR; rw [if_pos h1]))

set_option maxHeartbeats 400000 in
theorem c_X4_damped {l : Launch} {D : va_G} {ad : Nat → Nat} {cy : Nat → ClassId} (hi : hx_inj ad) (I : MI) (J : MJ) (x : Int32) (P : Nat) (hP : I 1 0 = nI P) (hP12 : P ≤ 12) (R : Nat) (hR : I 4 1 = nI R) (hR6 : R ≤ 6) : Ct l D ad cy yX4_damped cX4_damped 2 (some .long) 2 [.ref (ad 0), .int x] I J (hx_is (some (.long (dampedR R (fun j => mWholeF (gC I) P j - mLowF (gC I) (bC I) P j) x))) I J) := by
  refine ct_start hi (by decide +kernel) (Nat.le_of_ble_eq_true rfl) (fun X hX hT => ?_)
  show X 0 [(0, .ref (ad 0)), (1, .int x)] [] I J
  refine wl_aload_n hX 0 rfl dX4_damped_0 ?_
  refine gf_X4_3 hX tb_192 dX4_damped_1 ?_
  refine wl_iload_n hX 1 rfl dX4_damped_4 ?_
  refine wl_cVi hX (c_X0_hasProject hi I J x) mv_X0_hasProject tb_391 (by decide) rfl rfl rfl rfl (by omega) (Nat.le_of_ble_eq_true rfl) dX4_damped_5 ?_
  refine wl_eqi (y := inF x (nI R)) (by rw [hR]) ?_
  refine wl_if_ne hX (tgt := 15) dX4_damped_8 (by decide) (fun h1 => ?_) (fun h1 => ?_)
  · have kb : ¬ inF x (nI R) = 0 := h1
    obtain ⟨p, hp, rfl⟩ := inF_of (by omega) h1
    have xp : xN (nI p) = p := xN_nI (by omega)
    refine wl_aload_n hX 0 rfl dX4_damped_15 ?_
    refine gf_X4_3 hX tb_192 dX4_damped_16 ?_
    refine wl_iload_n hX 1 rfl dX4_damped_19 ?_
    refine wl_cVl hX (c_X0_matchedUndamped hi I J p (by omega) P hP hP12) mv_X0_matchedUndamped tb_442 (by decide) rfl rfl rfl rfl (by omega) (Nat.le_of_ble_eq_true rfl) dX4_damped_20 ?_
    refine wl_aload_n hX 0 rfl dX4_damped_23 ?_
    refine gf_X4_3 hX tb_192 dX4_damped_24 ?_
    refine wl_iload_n hX 1 rfl dX4_damped_27 ?_
    refine wl_cVl hX (c_X0_matchedLow hi I J p (by omega) P hP hP12) mv_X0_matchedLow tb_406 (by decide) rfl rfl rfl rfl (by omega) (Nat.le_of_ble_eq_true rfl) dX4_damped_28 ?_
    refine wl_lsub hX dX4_damped_31 ?_
    exact wl_lreturn hT dX4_damped_32 (hx_rl (by unfold dampedR; rw [if_neg kb, xp]))
  · refine wl_ldc2 hX tb_404 dX4_damped_11 ?_
    exact wl_lreturn hT dX4_damped_14 (hx_rl (by unfold dampedR; rw [if_pos h1]))

set_option maxHeartbeats 400000 in
theorem c_X4_likeness {l : Launch} {D : va_G} {ad : Nat → Nat} {cy : Nat → ClassId} (hi : hx_inj ad) (I : MI) (J : MJ) (x y : Int32) (P : Nat) (hP : I 1 0 = nI P) (hP12 : P ≤ 12) (Q : Nat) (hQ : I 1 1 = nI Q) (hQ6 : Q ≤ 6) : Ct l D ad cy yX4_likeness cX4_likeness 3 (some .int) 2 [.ref (ad 0), .int x, .int y] I J (hx_is (some (.int (twoR P P (-2001) (likeF (vC I) Q) x y))) I J) := by
  refine ct_start hi (by decide +kernel) (Nat.le_of_ble_eq_true rfl) (fun X hX hT => ?_)
  show X 0 [(0, .ref (ad 0)), (1, .int x), (2, .int y)] [] I J
  refine wl_aload_n hX 0 rfl dX4_likeness_0 ?_
  refine gf_X4_0 hX tb_189 dX4_likeness_1 ?_
  refine wl_iload_n hX 1 rfl dX4_likeness_4 ?_
  refine wl_cVi hX (c_X1_hasPerson hi I J x) mv_X1_hasPerson tb_229 (by decide) rfl rfl rfl rfl (by omega) (Nat.le_of_ble_eq_true rfl) dX4_likeness_5 ?_
  refine wl_eqi (y := inF x (nI P)) (by rw [hP]) ?_
  refine wl_if_eq hX (tgt := 22) dX4_likeness_8 (by decide) (fun h1 => ?_) (fun h1 => ?_)
  · refine wl_sipush hX (v := (-2001)) dX4_likeness_22 (by decide) ?_
    exact wl_ireturn hT dX4_likeness_25 (hx_ri (by unfold twoR; rw [if_pos (Or.inl h1)]))
  · refine wl_aload_n hX 0 rfl dX4_likeness_11 ?_
    refine gf_X4_0 hX tb_189 dX4_likeness_12 ?_
    refine wl_iload_n hX 2 rfl dX4_likeness_15 ?_
    refine wl_cVi hX (c_X1_hasPerson hi I J y) mv_X1_hasPerson tb_229 (by decide) rfl rfl rfl rfl (by omega) (Nat.le_of_ble_eq_true rfl) dX4_likeness_16 ?_
    refine wl_eqi (y := inF y (nI P)) (by rw [hP]) ?_
    refine wl_if_ne hX (tgt := 26) dX4_likeness_19 (by decide) (fun h2 => ?_) (fun h2 => ?_)
    · have kb : ¬ (inF x (nI P) = 0 ∨ inF y (nI P) = 0) := fun z => z.elim h1 h2
      obtain ⟨p, hp, rfl⟩ := inF_of (by omega) h1
      obtain ⟨q, hq, rfl⟩ := inF_of (by omega) h2
      have xp : xN (nI p) = p := xN_nI (by omega)
      have xq : xN (nI q) = q := xN_nI (by omega)
      refine wl_aload_n hX 0 rfl dX4_likeness_26 ?_
      refine gf_X4_0 hX tb_189 dX4_likeness_27 ?_
      refine wl_iload_n hX 1 rfl dX4_likeness_30 ?_
      refine wl_iload_n hX 2 rfl dX4_likeness_31 ?_
      refine wl_cVi hX (c_X1_likenessOf hi I J p q (by omega) (by omega) Q hQ hQ6) mv_X1_likenessOf tb_451 (by decide) rfl rfl rfl rfl (by omega) (Nat.le_of_ble_eq_true rfl) dX4_likeness_32 ?_
      exact wl_ireturn hT dX4_likeness_35 (hx_ri (by unfold twoR; rw [if_neg kb, xp, xq]))
    · refine wl_sipush hX (v := (-2001)) dX4_likeness_22 (by decide) ?_
      exact wl_ireturn hT dX4_likeness_25 (hx_ri (by unfold twoR; rw [if_pos (Or.inr h2)]))

set_option maxHeartbeats 400000 in
theorem c_X4_group {l : Launch} {D : va_G} {ad : Nat → Nat} {cy : Nat → ClassId} (hi : hx_inj ad) (I : MI) (J : MJ) (x t : Int32) (P : Nat) (hP : I 1 0 = nI P) (hP12 : P ≤ 12) (Q : Nat) (hQ : I 1 1 = nI Q) (hQ6 : Q ≤ 6) : Ct l D ad cy yX4_group cX4_group 3 (some .int) 4 [.ref (ad 0), .int x, .int t] I J (hx_is (some (.int (groupR P (fun p => grF (alF (vC I) Q P t) P P (1 <<< (nI p &&& 31)) 0) x t))) I J) := by
  refine ct_start hi (by decide +kernel) (Nat.le_of_ble_eq_true rfl) (fun X hX hT => ?_)
  show X 0 [(0, .ref (ad 0)), (1, .int x), (2, .int t)] [] I J
  refine wl_aload_n hX 0 rfl dX4_group_0 ?_
  refine gf_X4_0 hX tb_189 dX4_group_1 ?_
  refine wl_iload_n hX 1 rfl dX4_group_4 ?_
  refine wl_cVi hX (c_X1_hasPerson hi I J x) mv_X1_hasPerson tb_229 (by decide) rfl rfl rfl rfl (by omega) (Nat.le_of_ble_eq_true rfl) dX4_group_5 ?_
  refine wl_eqi (y := inF x (nI P)) (by rw [hP]) ?_
  refine wl_if_ne hX (tgt := 14) dX4_group_8 (by decide) (fun h1 => ?_) (fun h1 => ?_)
  · have kb : ¬ inF x (nI P) = 0 := h1
    obtain ⟨p, hp, rfl⟩ := inF_of (by omega) h1
    have xp : xN (nI p) = p := xN_nI (by omega)
    refine wl_iload_n hX 2 rfl dX4_group_14 ?_
    refine wl_iconst hX (v := 1) dX4_group_15 (by decide) ?_
    refine wl_sipush hX (v := 1000) dX4_group_16 (by decide) ?_
    refine wl_cSi hX (c_X4_isWithin hi I J t 1 1000) mv_X4_isWithin tb_206 rfl rfl (by omega) (Nat.le_of_ble_eq_true rfl) dX4_group_19 ?_
    refine wl_if_ne hX (tgt := 28) dX4_group_22 (by decide) (fun h3 => ?_) (fun h3 => ?_)
    · refine wl_aload_n hX 0 rfl dX4_group_28 ?_
      refine gf_X4_0 hX tb_189 dX4_group_29 ?_
      refine wl_iload_n hX 1 rfl dX4_group_32 ?_
      refine wl_iload_n hX 2 rfl dX4_group_33 ?_
      refine wl_cVi hX (c_X1_groupOf hi I J p t (by omega) P hP hP12 Q hQ hQ6) mv_X1_groupOf tb_461 (by decide) rfl rfl rfl rfl (by omega) (Nat.le_of_ble_eq_true rfl) dX4_group_34 ?_
      exact wl_ireturn hT dX4_group_37 (hx_ri (by unfold groupR; rw [if_neg kb, if_neg h3, xp]))
    · refine wl_bipush hX (v := (-102)) dX4_group_25 (by decide) ?_
      exact wl_ireturn hT dX4_group_27 (hx_ri (by unfold groupR; rw [if_neg kb, if_pos h3]))
  · refine wl_bipush hX (v := (-101)) dX4_group_11 (by decide) ?_
    exact wl_ireturn hT dX4_group_13 (hx_ri (by unfold groupR; rw [if_pos h1]))

set_option maxHeartbeats 400000 in
theorem c_X4_count {l : Launch} {D : va_G} {ad : Nat → Nat} {cy : Nat → ClassId} (hi : hx_inj ad) (I : MI) (J : MJ) (x : Int32) (P : Nat) (hP : I 1 0 = nI P) (hP12 : P ≤ 12) (Q : Nat) (hQ : I 1 1 = nI Q) (hQ6 : Q ≤ 6) (R : Nat) (hR : I 4 1 = nI R) (hR6 : R ≤ 6) : Ct l D ad cy yX4_count cX4_count 2 (some .int) 1 [.ref (ad 0), .int x] I J (hx_is (some (.int (countR (nI P) (nI Q) (nI R) (presF (I 7) P) (I 3 3) (I 3 4) x))) I J) := by
  refine ct_start hi (by decide +kernel) (Nat.le_of_ble_eq_true rfl) (fun X hX hT => ?_)
  show X 0 [(0, .ref (ad 0)), (1, .int x)] [] I J
  refine wl_iload_n hX 1 rfl dX4_count_0 ?_
  by_cases c0 : x = 0
  · subst c0
    refine wl_tableIn hX (off := 39) (tgt := 40) dX4_count_1 (by decide) (by decide) (by decide) (by decide) ?_
    refine wl_aload_n hX 0 rfl dX4_count_40 ?_
    refine gf_X4_0 hX tb_189 dX4_count_41 ?_
    refine gf_X1_0 hX tb_50 dX4_count_44 ?_
    refine wl_eqi (y := nI P) hP ?_
    exact wl_ireturn hT dX4_count_47 (hx_ri (by unfold countR; simp))
  · by_cases c1 : x = 1
    · subst c1
      refine wl_tableIn hX (off := 47) (tgt := 48) dX4_count_1 (by decide) (by decide) (by decide) (by decide) ?_
      refine wl_aload_n hX 0 rfl dX4_count_48 ?_
      refine gf_X4_0 hX tb_189 dX4_count_49 ?_
      refine gf_X1_1 hX tb_54 dX4_count_52 ?_
      refine wl_eqi (y := nI Q) hQ ?_
      exact wl_ireturn hT dX4_count_55 (hx_ri (by unfold countR; simp))
    · by_cases c2 : x = 2
      · subst c2
        refine wl_tableIn hX (off := 55) (tgt := 56) dX4_count_1 (by decide) (by decide) (by decide) (by decide) ?_
        refine wl_aload_n hX 0 rfl dX4_count_56 ?_
        refine gf_X4_3 hX tb_192 dX4_count_57 ?_
        refine gf_X0_1 hX tb_172 dX4_count_60 ?_
        refine wl_eqi (y := nI R) hR ?_
        exact wl_ireturn hT dX4_count_63 (hx_ri (by unfold countR; simp))
      · by_cases c3 : x = 3
        · subst c3
          refine wl_tableIn hX (off := 63) (tgt := 64) dX4_count_1 (by decide) (by decide) (by decide) (by decide) ?_
          refine wl_aload_n hX 0 rfl dX4_count_64 ?_
          refine gf_X4_0 hX tb_189 dX4_count_65 ?_
          refine wl_cVi hX (c_X1_peoplePresent hi I J P hP hP12) mv_X1_peoplePresent tb_474 (by decide) rfl rfl rfl rfl (by omega) (Nat.le_of_ble_eq_true rfl) dX4_count_68 ?_
          exact wl_ireturn hT dX4_count_71 (hx_ri (by unfold countR; simp))
        · by_cases c4 : x = 4
          · subst c4
            refine wl_tableIn hX (off := 71) (tgt := 72) dX4_count_1 (by decide) (by decide) (by decide) (by decide) ?_
            refine wl_aload_n hX 0 rfl dX4_count_72 ?_
            refine gf_X4_2 hX tb_191 dX4_count_73 ?_
            refine gf_X2_3 hX tb_140 dX4_count_76 ?_
            exact wl_ireturn hT dX4_count_79 (hx_ri (by unfold countR; simp))
          · by_cases c5 : x = 5
            · subst c5
              refine wl_tableIn hX (off := 79) (tgt := 80) dX4_count_1 (by decide) (by decide) (by decide) (by decide) ?_
              refine wl_aload_n hX 0 rfl dX4_count_80 ?_
              refine gf_X4_2 hX tb_191 dX4_count_81 ?_
              refine gf_X2_4 hX tb_142 dX4_count_84 ?_
              exact wl_ireturn hT dX4_count_87 (hx_ri (by unfold countR; simp))
            · refine wl_tableOut hX (tgt := 88) dX4_count_1 (hx_far c0 c1 c2 c3 c4 c5) (by decide) ?_
              refine wl_bipush hX (v := (-102)) dX4_count_88 (by decide) ?_
              exact wl_ireturn hT dX4_count_90 (hx_ri (by unfold countR; rw [if_neg c0, if_neg c1, if_neg c2, if_neg c3, if_neg c4, if_neg c5]))

set_option maxHeartbeats 400000 in
theorem c_X4_digest {l : Launch} {D : va_G} {ad : Nat → Nat} {cy : Nat → ClassId} (hi : hx_inj ad) (I : MI) (J : MJ) (P : Nat) (hP : I 1 0 = nI P) (hP12 : P ≤ 12) (Q : Nat) (hQ : I 1 1 = nI Q) (hQ6 : Q ≤ 6) (R : Nat) (hR : I 4 1 = nI R) (hR6 : R ≤ 6) : Ct l D ad cy yX4_digest cX4_digest 4 (some .long) 1 [.ref (ad 0)] I J (hx_is (some (.long (digestR (fun p z => dgFF (gC I p) (bC I p) R p (dgHF (I 6 p) (I 7 p) (vC I p) (wC I p) Q z)) P (I 1 2) (I 3 3) (I 3 4)))) I J) := by
  refine ct_start hi (by decide +kernel) (Nat.le_of_ble_eq_true rfl) (fun X hX hT => ?_)
  show X 0 [(0, .ref (ad 0))] [] I J
  refine wl_ldc2 hX tb_482 dX4_digest_0 ?_
  refine wl_lstore_n hX (lv' := [(1, .long 103), (0, .ref (ad 0))]) rfl (by decide) dX4_digest_3 ?_
  refine wl_iconst hX (v := 0) dX4_digest_4 (by decide) ?_
  refine wl_istore_n hX (lv' := [(3, .int 0), (1, .long 103), (0, .ref (ad 0))]) rfl (by decide) dX4_digest_5 ?_
  refine wl_sub hX [2, 1, 0] rfl ?_
  have L : ∀ (k p : Nat), p ≤ P → P - p < k → X 6 [(0, .ref (ad 0)), (1, .long (dgF (fun p z => dgFF (gC I p) (bC I p) R p (dgHF (I 6 p) (I 7 p) (vC I p) (wC I p) Q z)) p 103)), (3, .int (nI p))] [] I J := by
    intro k
    induction k with
    | zero => exact fun _  _ h => absurd h (Nat.not_lt_zero _)
    | succ k ihL =>
      intro p  hpn hpk
      refine wl_iload_n hX 2 rfl dX4_digest_6 ?_
      refine wl_aload_n hX 0 rfl dX4_digest_7 ?_
      refine gf_X4_0 hX tb_189 dX4_digest_8 ?_
      refine gf_X1_0 hX tb_50 dX4_digest_11 ?_
      refine wl_eqi (y := nI P) hP ?_
      refine wl_icmp_ge hX (tgt := 43) dX4_digest_14 (by decide) (fun hpc => ?_) (fun hpc => ?_)
      · have hpe : p = P := by
          have h9 := (nI_leI (by omega) (by omega)).mp hpc
          omega
        refine wl_ldc2 hX tb_493 dX4_digest_43 ?_
        refine wl_lload_n hX 1 rfl dX4_digest_46 ?_
        refine wl_lmul hX dX4_digest_47 ?_
        refine wl_aload_n hX 0 rfl dX4_digest_48 ?_
        refine gf_X4_0 hX tb_189 dX4_digest_49 ?_
        refine gf_X1_2 hX tb_56 dX4_digest_52 ?_
        refine wl_i2l hX (v := (I 1 2).toInt64) dX4_digest_55 rfl ?_
        refine wl_ladd hX dX4_digest_56 ?_
        refine wl_lstore_n hX (lv' := [(1, .long ((31 * (dgF (fun p z => dgFF (gC I p) (bC I p) R p (dgHF (I 6 p) (I 7 p) (vC I p) (wC I p) Q z)) p 103)) + ((I 1 2).toInt64))), (0, .ref (ad 0)), (3, .int (nI p))]) rfl (by decide) dX4_digest_57 ?_
        refine wl_ldc2 hX tb_493 dX4_digest_58 ?_
        refine wl_lload_n hX 0 rfl dX4_digest_61 ?_
        refine wl_lmul hX dX4_digest_62 ?_
        refine wl_aload_n hX 1 rfl dX4_digest_63 ?_
        refine gf_X4_2 hX tb_191 dX4_digest_64 ?_
        refine gf_X2_3 hX tb_140 dX4_digest_67 ?_
        refine wl_i2l hX (v := (I 3 3).toInt64) dX4_digest_70 rfl ?_
        refine wl_ladd hX dX4_digest_71 ?_
        refine wl_lstore_n hX (lv' := [(1, .long ((31 * ((31 * (dgF (fun p z => dgFF (gC I p) (bC I p) R p (dgHF (I 6 p) (I 7 p) (vC I p) (wC I p) Q z)) p 103)) + ((I 1 2).toInt64))) + ((I 3 3).toInt64))), (0, .ref (ad 0)), (3, .int (nI p))]) rfl (by decide) dX4_digest_72 ?_
        refine wl_ldc2 hX tb_493 dX4_digest_73 ?_
        refine wl_lload_n hX 0 rfl dX4_digest_76 ?_
        refine wl_lmul hX dX4_digest_77 ?_
        refine wl_aload_n hX 1 rfl dX4_digest_78 ?_
        refine gf_X4_2 hX tb_191 dX4_digest_79 ?_
        refine gf_X2_4 hX tb_142 dX4_digest_82 ?_
        refine wl_i2l hX (v := (I 3 4).toInt64) dX4_digest_85 rfl ?_
        refine wl_ladd hX dX4_digest_86 ?_
        exact wl_lreturn hT dX4_digest_87 (hx_rl (by rw [hpe]; rfl))
      · have hp1 : p < P := Nat.lt_of_not_le (fun z => hpc ((nI_leI (by omega) (by omega)).mpr z))
        refine wl_aload_n hX 0 rfl dX4_digest_17 ?_
        refine gf_X4_0 hX tb_189 dX4_digest_18 ?_
        refine wl_lload_n hX 1 rfl dX4_digest_21 ?_
        refine wl_iload_n hX 2 rfl dX4_digest_22 ?_
        refine wl_cVl hX (c_X1_digestPerson hi I J (dgF (fun p z => dgFF (gC I p) (bC I p) R p (dgHF (I 6 p) (I 7 p) (vC I p) (wC I p) Q z)) p 103) p (by omega) Q hQ hQ6) mv_X1_digestPerson tb_483 (by decide) rfl rfl rfl rfl (by omega) (Nat.le_of_ble_eq_true rfl) dX4_digest_23 ?_
        refine wl_lstore_n hX (lv' := [(1, .long (dgHF (I 6 p) (I 7 p) (vC I p) (wC I p) Q (dgF (fun p z => dgFF (gC I p) (bC I p) R p (dgHF (I 6 p) (I 7 p) (vC I p) (wC I p) Q z)) p 103))), (0, .ref (ad 0)), (3, .int (nI p))]) rfl (by decide) dX4_digest_26 ?_
        refine wl_aload_n hX 1 rfl dX4_digest_27 ?_
        refine gf_X4_3 hX tb_192 dX4_digest_28 ?_
        refine wl_lload_n hX 0 rfl dX4_digest_31 ?_
        refine wl_iload_n hX 2 rfl dX4_digest_32 ?_
        refine wl_cVl hX (c_X0_digestPerson hi I J (dgHF (I 6 p) (I 7 p) (vC I p) (wC I p) Q (dgF (fun p z => dgFF (gC I p) (bC I p) R p (dgHF (I 6 p) (I 7 p) (vC I p) (wC I p) Q z)) p 103)) p (by omega) R hR hR6) mv_X0_digestPerson tb_488 (by decide) rfl rfl rfl rfl (by omega) (Nat.le_of_ble_eq_true rfl) dX4_digest_33 ?_
        refine wl_lstore_n hX (lv' := [(1, .long (dgF (fun p z => dgFF (gC I p) (bC I p) R p (dgHF (I 6 p) (I 7 p) (vC I p) (wC I p) Q z)) (p + 1) 103)), (0, .ref (ad 0)), (3, .int (nI p))]) rfl (by decide) dX4_digest_36 ?_
        refine wl_iinc hX (v := nI (p + 1)) (lv' := [(3, .int (nI (p + 1))), (1, .long (dgF (fun p z => dgFF (gC I p) (bC I p) R p (dgHF (I 6 p) (I 7 p) (vC I p) (wC I p) Q z)) (p + 1) 103)), (0, .ref (ad 0))]) 2 rfl (nI_1 _) rfl (by decide) dX4_digest_37 ?_
        refine wl_goto hX (tgt := 6) dX4_digest_40 (by decide) ?_
        refine wl_sub hX [2, 1, 0] rfl ?_
        exact ihL (p + 1) (by omega) (by omega)
  exact L (P + 1) 0 (by omega) (by omega)

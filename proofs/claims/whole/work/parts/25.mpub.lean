/-! the public calls of the reference -/
theorem chF_0 (f : Nat → Int32) (z : Int64) : chF f 0 z = z := rfl
theorem hx_uJ2 (J : MJ) (k i : Nat) (x y : Int64) : hx_uJ (hx_uJ J k i x) k i y = hx_uJ J k i y := by
  funext a
  unfold hx_uJ
  by_cases h : a = k
  · rw [if_pos h, if_pos h, if_pos rfl]
    funext b
    unfold vp_updL
    by_cases h2 : b = i
    · rw [if_pos h2, if_pos h2]
    · rw [if_neg h2, if_neg h2, if_neg h2]
  · rw [if_neg h, if_neg h, if_neg h]
theorem fmM_5 {I : MI} {P Q p j : Nat} (h1 : j ≠ 18) (h2 : j ≠ 19) (h3 : j ≠ 20) : fmM I P Q p 5 j = I 5 j := by
  have e : fmB I P Q p 5 = I 5 := f1R_ne (by decide) (by decide) Q
  show upd (upd (upd (fmB I P Q p 5) 18 _) 19 _) 20 _ j = I 5 j
  unfold upd
  rw [if_neg h3, if_neg h2, if_neg h1, e]
theorem fmM_ne {I : MI} {P Q p a : Nat} (h : a ≠ 5) (h1 : a ≠ 26) (h2 : a ≠ 27) (h3 : a ≠ 28) (h4 : a ≠ 29) : fmM I P Q p a = I a := by
  unfold fmM
  rw [msM_ne h4 h3 h]
  exact f1R_ne h1 h2 Q
set_option maxHeartbeats 400000 in
theorem c_X5_person {l : Launch} {D : va_G} {ad : Nat → Nat} {cy : Nat → ClassId} (hi : hx_inj ad) (I : MI) (J : MJ) (b : Int32) (P : Nat) (hP : I 5 0 = nI P) (hP12 : P ≤ 12) : Ct l D ad cy yX5_person cX5_person 2 (some .int) 1 [.ref (ad 5), .int b] I J (hx_is (some (.int (personR P b))) (hx_if (¬ withinF b 0 2000 = 0 ∧ P < 12) (hx_u (hx_u (hx_u I 20 P b) 21 P 1) 5 0 (nI (P + 1))) I) J) := by
  refine ct_start hi (by decide +kernel) (Nat.le_of_ble_eq_true rfl) (fun X hX hT => ?_)
  show X 0 [(0, .ref (ad 5)), (1, .int b)] [] I J
  refine wl_iload_n hX 1 rfl dX5_person_0 ?_
  refine wl_iconst hX (v := 0) dX5_person_1 (by decide) ?_
  refine wl_sipush hX (v := 2000) dX5_person_2 (by decide) ?_
  refine wl_cSi hX (c_X5_in hi I J b 0 2000) mv_X5_in tb_580 rfl rfl (by omega) (Nat.le_of_ble_eq_true rfl) dX5_person_5 ?_
  refine wl_if_ne hX (tgt := 14) dX5_person_8 (by decide) (fun h1 => ?_) (fun h1 => ?_)
  · refine wl_aload_n hX 0 rfl dX5_person_14 ?_
    refine gf_X5_0 hX tb_500 dX5_person_15 ?_
    refine wl_eqi (y := nI P) hP ?_
    refine wl_bipush hX (v := 12) dX5_person_18 (by decide) ?_
    refine wl_icmp_ne hX (tgt := 26) dX5_person_20 (by decide) (fun h2 => ?_) (fun h2 => ?_)
    · have k2 : P < 12 := by
        have : ¬ P = 12 := fun z => h2 (by rw [z]; decide)
        omega
      rw [hx_ifp ⟨h1, k2⟩] at hT
      refine wl_aload_n hX 0 rfl dX5_person_26 ?_
      refine gf_X5_4 hX tb_504 dX5_person_27 ?_
      refine wl_aload_n hX 0 rfl dX5_person_30 ?_
      refine gf_X5_0 hX tb_500 dX5_person_31 ?_
      refine wl_eqi (y := nI P) hP ?_
      refine wl_iload_n hX 1 rfl dX5_person_34 ?_
      refine wl_iast hX P kc_20 rfl (by omega) dX5_person_35 ?_
      refine wl_aload_n hX 0 rfl dX5_person_36 ?_
      refine gf_X5_5 hX tb_505 dX5_person_37 ?_
      refine wl_aload_n hX 0 rfl dX5_person_40 ?_
      refine gf_X5_0 hX tb_500 dX5_person_41 ?_
      refine wl_eqi (y := nI P) hP ?_
      refine wl_iconst hX (v := 1) dX5_person_44 (by decide) ?_
      refine wl_zast hX P kc_21 rfl (by omega) (by decide) dX5_person_45 ?_
      refine wl_aload_n hX 0 rfl dX5_person_46 ?_
      refine wl_dup hX dX5_person_47 rfl ?_
      refine gf_X5_0 hX tb_500 dX5_person_48 ?_
      refine wl_eqi (y := nI P) hP ?_
      refine wl_iconst hX (v := 1) dX5_person_51 (by decide) ?_
      refine wl_iadd hX dX5_person_52 ?_
      refine wl_eqi (y := nI (P + 1)) (nI_1 P) ?_
      refine pf_X5_0 hX tb_500 dX5_person_53 ?_
      refine wl_aload_n hX 0 rfl dX5_person_56 ?_
      refine gf_X5_0 hX tb_500 dX5_person_57 ?_
      refine wl_iconst hX (v := 1) dX5_person_60 (by decide) ?_
      refine wl_isub hX dX5_person_61 ?_
      exact wl_ireturn hT dX5_person_62 (hx_ri (by unfold personR; rw [if_neg h1, if_neg (by omega)]; exact nI_pred P))
    · have k2 : P = 12 := (nI_eq (b := 12) (by omega) (by omega)).mp h2
      rw [hx_ifn (fun z => by have := z.2; omega)] at hT
      refine wl_bipush hX (v := (-104)) dX5_person_23 (by decide) ?_
      exact wl_ireturn hT dX5_person_25 (hx_ri (by unfold personR; rw [if_neg h1, if_pos (by omega)]))
  · rw [hx_ifn (fun z => z.1 h1)] at hT
    refine wl_bipush hX (v := (-102)) dX5_person_11 (by decide) ?_
    exact wl_ireturn hT dX5_person_13 (hx_ri (by unfold personR; rw [if_pos h1]))

set_option maxHeartbeats 400000 in
theorem c_X5_question {l : Launch} {D : va_G} {ad : Nat → Nat} {cy : Nat → ClassId} (hi : hx_inj ad) (I : MI) (J : MJ) (Q : Nat) (hQ : I 5 1 = nI Q) (hQ6 : Q ≤ 6) : Ct l D ad cy yX5_question cX5_question 1 (some .int) 0 [.ref (ad 5)] I J (hx_is (some (.int (roomR 6 Q))) (hx_if (Q < 6) (hx_u I 5 1 (nI (Q + 1))) I) J) := by
  refine ct_start hi (by decide +kernel) (Nat.le_of_ble_eq_true rfl) (fun X hX hT => ?_)
  show X 0 [(0, .ref (ad 5))] [] I J
  refine wl_aload_n hX 0 rfl dX5_question_0 ?_
  refine gf_X5_1 hX tb_501 dX5_question_1 ?_
  refine wl_eqi (y := nI Q) hQ ?_
  refine wl_bipush hX (v := 6) dX5_question_4 (by decide) ?_
  refine wl_icmp_ne hX (tgt := 12) dX5_question_6 (by decide) (fun h1 => ?_) (fun h1 => ?_)
  · have k2 : Q < 6 := by
      have : ¬ Q = 6 := fun z => h1 (by rw [z]; decide)
      omega
    rw [hx_ifp k2] at hT
    refine wl_aload_n hX 0 rfl dX5_question_12 ?_
    refine wl_dup hX dX5_question_13 rfl ?_
    refine gf_X5_1 hX tb_501 dX5_question_14 ?_
    refine wl_eqi (y := nI Q) hQ ?_
    refine wl_iconst hX (v := 1) dX5_question_17 (by decide) ?_
    refine wl_iadd hX dX5_question_18 ?_
    refine wl_eqi (y := nI (Q + 1)) (nI_1 Q) ?_
    refine pf_X5_1 hX tb_501 dX5_question_19 ?_
    refine wl_aload_n hX 0 rfl dX5_question_22 ?_
    refine gf_X5_1 hX tb_501 dX5_question_23 ?_
    refine wl_iconst hX (v := 1) dX5_question_26 (by decide) ?_
    refine wl_isub hX dX5_question_27 ?_
    exact wl_ireturn hT dX5_question_28 (hx_ri (by unfold roomR; rw [if_neg (by omega)]; exact nI_pred Q))
  · have k2 : Q = 6 := (nI_eq (b := 6) (by omega) (by omega)).mp h1
    rw [hx_ifn (by omega)] at hT
    refine wl_bipush hX (v := (-104)) dX5_question_9 (by decide) ?_
    exact wl_ireturn hT dX5_question_11 (hx_ri (by unfold roomR; rw [if_pos (by omega)]))

set_option maxHeartbeats 400000 in
theorem c_X5_project {l : Launch} {D : va_G} {ad : Nat → Nat} {cy : Nat → ClassId} (hi : hx_inj ad) (I : MI) (J : MJ) (R : Nat) (hR : I 5 2 = nI R) (hR6 : R ≤ 6) : Ct l D ad cy yX5_project cX5_project 1 (some .int) 0 [.ref (ad 5)] I J (hx_is (some (.int (roomR 6 R))) (hx_if (R < 6) (hx_u I 5 2 (nI (R + 1))) I) J) := by
  refine ct_start hi (by decide +kernel) (Nat.le_of_ble_eq_true rfl) (fun X hX hT => ?_)
  show X 0 [(0, .ref (ad 5))] [] I J
  refine wl_aload_n hX 0 rfl dX5_project_0 ?_
  refine gf_X5_2 hX tb_502 dX5_project_1 ?_
  refine wl_eqi (y := nI R) hR ?_
  refine wl_bipush hX (v := 6) dX5_project_4 (by decide) ?_
  refine wl_icmp_ne hX (tgt := 12) dX5_project_6 (by decide) (fun h1 => ?_) (fun h1 => ?_)
  · have k2 : R < 6 := by
      have : ¬ R = 6 := fun z => h1 (by rw [z]; decide)
      omega
    rw [hx_ifp k2] at hT
    refine wl_aload_n hX 0 rfl dX5_project_12 ?_
    refine wl_dup hX dX5_project_13 rfl ?_
    refine gf_X5_2 hX tb_502 dX5_project_14 ?_
    refine wl_eqi (y := nI R) hR ?_
    refine wl_iconst hX (v := 1) dX5_project_17 (by decide) ?_
    refine wl_iadd hX dX5_project_18 ?_
    refine wl_eqi (y := nI (R + 1)) (nI_1 R) ?_
    refine pf_X5_2 hX tb_502 dX5_project_19 ?_
    refine wl_aload_n hX 0 rfl dX5_project_22 ?_
    refine gf_X5_2 hX tb_502 dX5_project_23 ?_
    refine wl_iconst hX (v := 1) dX5_project_26 (by decide) ?_
    refine wl_isub hX dX5_project_27 ?_
    exact wl_ireturn hT dX5_project_28 (hx_ri (by unfold roomR; rw [if_neg (by omega)]; exact nI_pred R))
  · have k2 : R = 6 := (nI_eq (b := 6) (by omega) (by omega)).mp h1
    rw [hx_ifn (by omega)] at hT
    refine wl_bipush hX (v := (-104)) dX5_project_9 (by decide) ?_
    exact wl_ireturn hT dX5_project_11 (hx_ri (by unfold roomR; rw [if_pos (by omega)]))

set_option maxHeartbeats 400000 in
theorem c_X5_seed {l : Launch} {D : va_G} {ad : Nat → Nat} {cy : Nat → ClassId} (hi : hx_inj ad) (I : MI) (J : MJ) (x : Int32) : Ct l D ad cy yX5_seed cX5_seed 3 (some .int) 0 [.ref (ad 5), .int x] I J (hx_is (some (.int (I 5 3))) (hx_u I 5 3 x) J) := by
  refine ct_start hi (by decide +kernel) (Nat.le_of_ble_eq_true rfl) (fun X hX hT => ?_)
  show X 0 [(0, .ref (ad 5)), (1, .int x)] [] I J
  refine wl_aload_n hX 0 rfl dX5_seed_0 ?_
  refine gf_X5_3 hX tb_503 dX5_seed_1 ?_
  refine wl_istore_n hX (lv' := [(2, .int (I 5 3)), (0, .ref (ad 5)), (1, .int x)]) rfl (by decide) dX5_seed_4 ?_
  refine wl_aload_n hX 1 rfl dX5_seed_5 ?_
  refine wl_iload_n hX 2 rfl dX5_seed_6 ?_
  refine pf_X5_3 hX tb_503 dX5_seed_7 ?_
  refine wl_iload_n hX 0 rfl dX5_seed_10 ?_
  exact wl_ireturn hT dX5_seed_11 ⟨rfl, rfl, rfl⟩

set_option maxHeartbeats 400000 in
theorem c_X5_vote {l : Launch} {D : va_G} {ad : Nat → Nat} {cy : Nat → ClassId} (hi : hx_inj ad) (I : MI) (J : MJ) (x y z : Int32) (P : Nat) (hP : I 5 0 = nI P) (hP12 : P ≤ 12) (Q : Nat) (hQ : I 5 1 = nI Q) (hQ6 : Q ≤ 6) : Ct l D ad cy yX5_vote cX5_vote 6 (some .int) 2 [.ref (ad 5), .int x, .int y, .int z] I J (hx_is (some (.int (voteR P Q (vM I) (I 20) x y z))) (hx_if (voteW P Q (vM I) (I 20) x y z) (hx_u I 22 (6 * xN x + xN y) z) I) J) := by
  refine ct_start hi (by decide +kernel) (Nat.le_of_ble_eq_true rfl) (fun X hX hT => ?_)
  show X 0 [(0, .ref (ad 5)), (1, .int x), (2, .int y), (3, .int z)] [] I J
  refine wl_aload_n hX 0 rfl dX5_vote_0 ?_
  refine wl_iload_n hX 1 rfl dX5_vote_1 ?_
  refine wl_cVi hX (c_X5_isPerson hi I J x P hP hP12) mv_X5_isPerson tb_599 (by decide) rfl rfl rfl rfl (by omega) (Nat.le_of_ble_eq_true rfl) dX5_vote_2 ?_
  refine wl_if_eq hX (tgt := 16) dX5_vote_5 (by decide) (fun h1 => ?_) (fun h1 => ?_)
  · rw [hx_ifn (fun w => w.1 (Or.inl h1))] at hT
    refine wl_bipush hX (v := (-101)) dX5_vote_16 (by decide) ?_
    exact wl_ireturn hT dX5_vote_18 (hx_ri (by unfold voteR; rw [if_pos (Or.inl h1)]))
  · refine wl_aload_n hX 0 rfl dX5_vote_8 ?_
    refine wl_iload_n hX 2 rfl dX5_vote_9 ?_
    refine wl_cVi hX (c_X5_isQuestion hi I J y Q hQ hQ6) mv_X5_isQuestion tb_603 (by decide) rfl rfl rfl rfl (by omega) (Nat.le_of_ble_eq_true rfl) dX5_vote_10 ?_
    refine wl_if_ne hX (tgt := 19) dX5_vote_13 (by decide) (fun h2 => ?_) (fun h2 => ?_)
    · have kb : ¬ (inF x (nI P) = 0 ∨ inF y (nI Q) = 0) := fun z => z.elim h1 h2
      obtain ⟨p, hp, rfl⟩ := inF_of (by omega) h1
      obtain ⟨q, hq, rfl⟩ := inF_of (by omega) h2
      have xp : xN (nI p) = p := xN_nI (by omega)
      have xq : xN (nI q) = q := xN_nI (by omega)
      refine wl_iload_n hX 3 rfl dX5_vote_19 ?_
      refine wl_bipush hX (v := (-40)) dX5_vote_20 (by decide) ?_
      refine wl_bipush hX (v := 40) dX5_vote_22 (by decide) ?_
      refine wl_cSi hX (c_X5_in hi I J z (-40) 40) mv_X5_in tb_580 rfl rfl (by omega) (Nat.le_of_ble_eq_true rfl) dX5_vote_24 ?_
      refine wl_if_ne hX (tgt := 33) dX5_vote_27 (by decide) (fun h3 => ?_) (fun h3 => ?_)
      · refine wl_aload_n hX 0 rfl dX5_vote_33 ?_
        refine gf_X5_6 hX tb_506 dX5_vote_34 ?_
        refine wl_bipush hX (v := 6) dX5_vote_37 (by decide) ?_
        refine wl_iload_n hX 1 rfl dX5_vote_39 ?_
        refine wl_imul hX dX5_vote_40 ?_
        refine wl_iload_n hX 2 rfl dX5_vote_41 ?_
        refine wl_iadd hX dX5_vote_42 ?_
        refine wl_iald hX (6 * p + q) kc_22 (hx_ix6 p q) (by omega) dX5_vote_43 ?_
        refine wl_istore hX (lv' := [(4, .int (I 22 (6 * p + q))), (0, .ref (ad 5)), (1, .int (nI p)), (2, .int (nI q)), (3, .int z)]) rfl (by decide) dX5_vote_44 ?_
        refine wl_aload_n hX 1 rfl dX5_vote_46 ?_
        refine wl_iload_n hX 2 rfl dX5_vote_47 ?_
        refine wl_cVi hX (c_X5_costOf hi I J p (by omega) Q hQ hQ6) mv_X5_costOf tb_607 (by decide) rfl rfl rfl rfl (by omega) (Nat.le_of_ble_eq_true rfl) dX5_vote_48 ?_
        refine wl_iload hX 0 rfl dX5_vote_51 ?_
        refine wl_iload hX 0 rfl dX5_vote_53 ?_
        refine wl_imul hX dX5_vote_55 ?_
        refine wl_isub hX dX5_vote_56 ?_
        refine wl_iload_n hX 4 rfl dX5_vote_57 ?_
        refine wl_iload_n hX 4 rfl dX5_vote_58 ?_
        refine wl_imul hX dX5_vote_59 ?_
        refine wl_iadd hX dX5_vote_60 ?_
        refine wl_istore hX (lv' := [(5, .int (((costF (vM I) Q p) - ((I 22 (6 * p + q)) * (I 22 (6 * p + q)))) + (z * z))), (4, .int (I 22 (6 * p + q))), (0, .ref (ad 5)), (1, .int (nI p)), (2, .int (nI q)), (3, .int z)]) rfl (by decide) dX5_vote_61 ?_
        refine wl_iload hX 0 rfl dX5_vote_63 ?_
        refine wl_aload_n hX 2 rfl dX5_vote_65 ?_
        refine gf_X5_4 hX tb_504 dX5_vote_66 ?_
        refine wl_iload_n hX 3 rfl dX5_vote_69 ?_
        refine wl_iald hX p kc_20 rfl (by omega) dX5_vote_70 ?_
        refine wl_icmp_le hX (tgt := 77) dX5_vote_71 (by decide) (fun h4 => ?_) (fun h4 => ?_)
        · have k4 : ¬ I 20 p < costF (vM I) Q p - I 22 (6 * p + q) * I 22 (6 * p + q) + z * z := fun w => by rw [Int32.lt_iff_toInt_lt] at w; rw [Int32.le_iff_toInt_le] at h4; omega
          rw [hx_ifp ⟨kb, h3, by rw [xp, xq]; exact k4⟩, xp, xq] at hT
          refine wl_aload_n hX 2 rfl dX5_vote_77 ?_
          refine gf_X5_6 hX tb_506 dX5_vote_78 ?_
          refine wl_bipush hX (v := 6) dX5_vote_81 (by decide) ?_
          refine wl_iload_n hX 3 rfl dX5_vote_83 ?_
          refine wl_imul hX dX5_vote_84 ?_
          refine wl_iload_n hX 4 rfl dX5_vote_85 ?_
          refine wl_iadd hX dX5_vote_86 ?_
          refine wl_iload_n hX 5 rfl dX5_vote_87 ?_
          refine wl_iast hX (6 * p + q) kc_22 (hx_ix6 p q) (by omega) dX5_vote_88 ?_
          refine wl_iload hX 0 rfl dX5_vote_89 ?_
          exact wl_ireturn hT dX5_vote_91 (hx_ri (by unfold voteR; rw [if_neg kb, if_neg h3, xp, xq]; exact (if_neg k4).symm))
        · have k4 : I 20 p < costF (vM I) Q p - I 22 (6 * p + q) * I 22 (6 * p + q) + z * z := by rw [Int32.lt_iff_toInt_lt]; rw [Int32.le_iff_toInt_le] at h4; omega
          rw [hx_ifn (fun w => w.2.2 (by rw [xp, xq]; exact k4))] at hT
          refine wl_bipush hX (v := (-103)) dX5_vote_74 (by decide) ?_
          exact wl_ireturn hT dX5_vote_76 (hx_ri (by unfold voteR; rw [if_neg kb, if_neg h3, xp, xq]; exact (if_pos k4).symm))
      · rw [hx_ifn (fun w => w.2.1 h3)] at hT
        refine wl_bipush hX (v := (-102)) dX5_vote_30 (by decide) ?_
        exact wl_ireturn hT dX5_vote_32 (hx_ri (by unfold voteR; rw [if_neg kb, if_pos h3]))
    · rw [hx_ifn (fun w => w.1 (Or.inr h2))] at hT
      refine wl_bipush hX (v := (-101)) dX5_vote_16 (by decide) ?_
      exact wl_ireturn hT dX5_vote_18 (hx_ri (by unfold voteR; rw [if_pos (Or.inr h2)]))

set_option maxHeartbeats 400000 in
theorem c_X5_worth {l : Launch} {D : va_G} {ad : Nat → Nat} {cy : Nat → ClassId} (hi : hx_inj ad) (I : MI) (J : MJ) (x y z : Int32) (P : Nat) (hP : I 5 0 = nI P) (hP12 : P ≤ 12) (Q : Nat) (hQ : I 5 1 = nI Q) (hQ6 : Q ≤ 6) : Ct l D ad cy yX5_worth cX5_worth 5 (some .int) 2 [.ref (ad 5), .int x, .int y, .int z] I J (hx_is (some (.int (wasR P Q (wM I) (-1000) 1000 x y z))) (hx_if (wasW P Q (-1000) 1000 x y z) (hx_u I 23 (6 * xN x + xN y) z) I) J) := by
  refine ct_start hi (by decide +kernel) (Nat.le_of_ble_eq_true rfl) (fun X hX hT => ?_)
  show X 0 [(0, .ref (ad 5)), (1, .int x), (2, .int y), (3, .int z)] [] I J
  refine wl_aload_n hX 0 rfl dX5_worth_0 ?_
  refine wl_iload_n hX 1 rfl dX5_worth_1 ?_
  refine wl_cVi hX (c_X5_isPerson hi I J x P hP hP12) mv_X5_isPerson tb_599 (by decide) rfl rfl rfl rfl (by omega) (Nat.le_of_ble_eq_true rfl) dX5_worth_2 ?_
  refine wl_if_eq hX (tgt := 16) dX5_worth_5 (by decide) (fun h1 => ?_) (fun h1 => ?_)
  · rw [hx_ifn (fun w => w.1 (Or.inl h1))] at hT
    refine wl_bipush hX (v := (-101)) dX5_worth_16 (by decide) ?_
    exact wl_ireturn hT dX5_worth_18 (hx_ri (by unfold wasR; rw [if_pos (Or.inl h1)]))
  · refine wl_aload_n hX 0 rfl dX5_worth_8 ?_
    refine wl_iload_n hX 2 rfl dX5_worth_9 ?_
    refine wl_cVi hX (c_X5_isQuestion hi I J y Q hQ hQ6) mv_X5_isQuestion tb_603 (by decide) rfl rfl rfl rfl (by omega) (Nat.le_of_ble_eq_true rfl) dX5_worth_10 ?_
    refine wl_if_ne hX (tgt := 19) dX5_worth_13 (by decide) (fun h2 => ?_) (fun h2 => ?_)
    · have kb : ¬ (inF x (nI P) = 0 ∨ inF y (nI Q) = 0) := fun z => z.elim h1 h2
      obtain ⟨p, hp, rfl⟩ := inF_of (by omega) h1
      obtain ⟨q, hq, rfl⟩ := inF_of (by omega) h2
      have xp : xN (nI p) = p := xN_nI (by omega)
      have xq : xN (nI q) = q := xN_nI (by omega)
      refine wl_iload_n hX 3 rfl dX5_worth_19 ?_
      refine wl_sipush hX (v := (-1000)) dX5_worth_20 (by decide) ?_
      refine wl_sipush hX (v := 1000) dX5_worth_23 (by decide) ?_
      refine wl_cSi hX (c_X5_in hi I J z (-1000) 1000) mv_X5_in tb_580 rfl rfl (by omega) (Nat.le_of_ble_eq_true rfl) dX5_worth_26 ?_
      refine wl_if_ne hX (tgt := 35) dX5_worth_29 (by decide) (fun h3 => ?_) (fun h3 => ?_)
      · rw [hx_ifp ⟨kb, h3⟩, xp, xq] at hT
        refine wl_aload_n hX 0 rfl dX5_worth_35 ?_
        refine gf_X5_7 hX tb_507 dX5_worth_36 ?_
        refine wl_bipush hX (v := 6) dX5_worth_39 (by decide) ?_
        refine wl_iload_n hX 1 rfl dX5_worth_41 ?_
        refine wl_imul hX dX5_worth_42 ?_
        refine wl_iload_n hX 2 rfl dX5_worth_43 ?_
        refine wl_iadd hX dX5_worth_44 ?_
        refine wl_iald hX (6 * p + q) kc_23 (hx_ix6 p q) (by omega) dX5_worth_45 ?_
        refine wl_istore hX (lv' := [(4, .int (I 23 (6 * p + q))), (0, .ref (ad 5)), (1, .int (nI p)), (2, .int (nI q)), (3, .int z)]) rfl (by decide) dX5_worth_46 ?_
        refine wl_aload_n hX 1 rfl dX5_worth_48 ?_
        refine gf_X5_7 hX tb_507 dX5_worth_49 ?_
        refine wl_bipush hX (v := 6) dX5_worth_52 (by decide) ?_
        refine wl_iload_n hX 2 rfl dX5_worth_54 ?_
        refine wl_imul hX dX5_worth_55 ?_
        refine wl_iload_n hX 3 rfl dX5_worth_56 ?_
        refine wl_iadd hX dX5_worth_57 ?_
        refine wl_iload_n hX 4 rfl dX5_worth_58 ?_
        refine wl_iast hX (6 * p + q) kc_23 (hx_ix6 p q) (by omega) dX5_worth_59 ?_
        refine wl_iload hX 0 rfl dX5_worth_60 ?_
        exact wl_ireturn hT dX5_worth_62 (hx_ri (by unfold wasR; rw [if_neg kb, if_neg h3, xp, xq]; rfl))
      · rw [hx_ifn (fun w => w.2 h3)] at hT
        refine wl_bipush hX (v := (-102)) dX5_worth_32 (by decide) ?_
        exact wl_ireturn hT dX5_worth_34 (hx_ri (by unfold wasR; rw [if_neg kb, if_pos h3]))
    · rw [hx_ifn (fun w => w.1 (Or.inr h2))] at hT
      refine wl_bipush hX (v := (-101)) dX5_worth_16 (by decide) ?_
      exact wl_ireturn hT dX5_worth_18 (hx_ri (by unfold wasR; rw [if_pos (Or.inr h2)]))

set_option maxHeartbeats 400000 in
theorem c_X5_gift {l : Launch} {D : va_G} {ad : Nat → Nat} {cy : Nat → ClassId} (hi : hx_inj ad) (I : MI) (J : MJ) (x y z : Int32) (P : Nat) (hP : I 5 0 = nI P) (hP12 : P ≤ 12) (R : Nat) (hR : I 5 2 = nI R) (hR6 : R ≤ 6) : Ct l D ad cy yX5_gift cX5_gift 5 (some .int) 2 [.ref (ad 5), .int x, .int y, .int z] I J (hx_is (some (.int (wasR P R (gM I) 0 1000000 x y z))) (hx_if (wasW P R 0 1000000 x y z) (hx_u I 24 (6 * xN x + xN y) z) I) J) := by
  refine ct_start hi (by decide +kernel) (Nat.le_of_ble_eq_true rfl) (fun X hX hT => ?_)
  show X 0 [(0, .ref (ad 5)), (1, .int x), (2, .int y), (3, .int z)] [] I J
  refine wl_aload_n hX 0 rfl dX5_gift_0 ?_
  refine wl_iload_n hX 1 rfl dX5_gift_1 ?_
  refine wl_cVi hX (c_X5_isPerson hi I J x P hP hP12) mv_X5_isPerson tb_599 (by decide) rfl rfl rfl rfl (by omega) (Nat.le_of_ble_eq_true rfl) dX5_gift_2 ?_
  refine wl_if_eq hX (tgt := 16) dX5_gift_5 (by decide) (fun h1 => ?_) (fun h1 => ?_)
  · rw [hx_ifn (fun w => w.1 (Or.inl h1))] at hT
    refine wl_bipush hX (v := (-101)) dX5_gift_16 (by decide) ?_
    exact wl_ireturn hT dX5_gift_18 (hx_ri (by unfold wasR; rw [if_pos (Or.inl h1)]))
  · refine wl_aload_n hX 0 rfl dX5_gift_8 ?_
    refine wl_iload_n hX 2 rfl dX5_gift_9 ?_
    refine wl_cVi hX (c_X5_isProject hi I J y R hR hR6) mv_X5_isProject tb_713 (by decide) rfl rfl rfl rfl (by omega) (Nat.le_of_ble_eq_true rfl) dX5_gift_10 ?_
    refine wl_if_ne hX (tgt := 19) dX5_gift_13 (by decide) (fun h2 => ?_) (fun h2 => ?_)
    · have kb : ¬ (inF x (nI P) = 0 ∨ inF y (nI R) = 0) := fun z => z.elim h1 h2
      obtain ⟨p, hp, rfl⟩ := inF_of (by omega) h1
      obtain ⟨q, hq, rfl⟩ := inF_of (by omega) h2
      have xp : xN (nI p) = p := xN_nI (by omega)
      have xq : xN (nI q) = q := xN_nI (by omega)
      refine wl_iload_n hX 3 rfl dX5_gift_19 ?_
      refine wl_iconst hX (v := 0) dX5_gift_20 (by decide) ?_
      refine wl_ldc hX tb_717 dX5_gift_21 ?_
      refine wl_cSi hX (c_X5_in hi I J z 0 1000000) mv_X5_in tb_580 rfl rfl (by omega) (Nat.le_of_ble_eq_true rfl) dX5_gift_23 ?_
      refine wl_if_ne hX (tgt := 32) dX5_gift_26 (by decide) (fun h3 => ?_) (fun h3 => ?_)
      · rw [hx_ifp ⟨kb, h3⟩, xp, xq] at hT
        refine wl_aload_n hX 0 rfl dX5_gift_32 ?_
        refine gf_X5_8 hX tb_508 dX5_gift_33 ?_
        refine wl_bipush hX (v := 6) dX5_gift_36 (by decide) ?_
        refine wl_iload_n hX 1 rfl dX5_gift_38 ?_
        refine wl_imul hX dX5_gift_39 ?_
        refine wl_iload_n hX 2 rfl dX5_gift_40 ?_
        refine wl_iadd hX dX5_gift_41 ?_
        refine wl_iald hX (6 * p + q) kc_24 (hx_ix6 p q) (by omega) dX5_gift_42 ?_
        refine wl_istore hX (lv' := [(4, .int (I 24 (6 * p + q))), (0, .ref (ad 5)), (1, .int (nI p)), (2, .int (nI q)), (3, .int z)]) rfl (by decide) dX5_gift_43 ?_
        refine wl_aload_n hX 1 rfl dX5_gift_45 ?_
        refine gf_X5_8 hX tb_508 dX5_gift_46 ?_
        refine wl_bipush hX (v := 6) dX5_gift_49 (by decide) ?_
        refine wl_iload_n hX 2 rfl dX5_gift_51 ?_
        refine wl_imul hX dX5_gift_52 ?_
        refine wl_iload_n hX 3 rfl dX5_gift_53 ?_
        refine wl_iadd hX dX5_gift_54 ?_
        refine wl_iload_n hX 4 rfl dX5_gift_55 ?_
        refine wl_iast hX (6 * p + q) kc_24 (hx_ix6 p q) (by omega) dX5_gift_56 ?_
        refine wl_iload hX 0 rfl dX5_gift_57 ?_
        exact wl_ireturn hT dX5_gift_59 (hx_ri (by unfold wasR; rw [if_neg kb, if_neg h3, xp, xq]; rfl))
      · rw [hx_ifn (fun w => w.2 h3)] at hT
        refine wl_bipush hX (v := (-102)) dX5_gift_29 (by decide) ?_
        exact wl_ireturn hT dX5_gift_31 (hx_ri (by unfold wasR; rw [if_neg kb, if_pos h3]))
    · rw [hx_ifn (fun w => w.1 (Or.inr h2))] at hT
      refine wl_bipush hX (v := (-101)) dX5_gift_16 (by decide) ?_
      exact wl_ireturn hT dX5_gift_18 (hx_ri (by unfold wasR; rw [if_pos (Or.inr h2)]))

set_option maxHeartbeats 400000 in
theorem c_X5_here {l : Launch} {D : va_G} {ad : Nat → Nat} {cy : Nat → ClassId} (hi : hx_inj ad) (I : MI) (J : MJ) (x z : Int32) (hz : z = 0 ∨ z = 1) (P : Nat) (hP : I 5 0 = nI P) (hP12 : P ≤ 12) : Ct l D ad cy yX5_here cX5_here 4 (some .int) 2 [.ref (ad 5), .int x, .int z] I J (hx_is (some (.int (hereR P (I 21) x))) (hx_if (¬ inF x (nI P) = 0) (hx_u I 21 (xN x) z) I) J) := by
  refine ct_start hi (by decide +kernel) (Nat.le_of_ble_eq_true rfl) (fun X hX hT => ?_)
  show X 0 [(0, .ref (ad 5)), (1, .int x), (2, .int z)] [] I J
  refine wl_aload_n hX 0 rfl dX5_here_0 ?_
  refine wl_iload_n hX 1 rfl dX5_here_1 ?_
  refine wl_cVi hX (c_X5_isPerson hi I J x P hP hP12) mv_X5_isPerson tb_599 (by decide) rfl rfl rfl rfl (by omega) (Nat.le_of_ble_eq_true rfl) dX5_here_2 ?_
  refine wl_if_ne hX (tgt := 11) dX5_here_5 (by decide) (fun h1 => ?_) (fun h1 => ?_)
  · have kb : ¬ inF x (nI P) = 0 := h1
    obtain ⟨p, hp, rfl⟩ := inF_of (by omega) h1
    have xp : xN (nI p) = p := xN_nI (by omega)
    rw [hx_ifp kb, xp] at hT
    refine wl_aload_n hX 0 rfl dX5_here_11 ?_
    refine gf_X5_5 hX tb_505 dX5_here_12 ?_
    refine wl_iload_n hX 1 rfl dX5_here_15 ?_
    refine wl_zald hX p kc_21 rfl (by omega) dX5_here_16 ?_
    refine wl_if_eq hX (tgt := 24) dX5_here_17 (by decide) (fun h2 => ?_) (fun h2 => ?_)
    · refine wl_iconst hX (v := 0) dX5_here_24 (by decide) ?_
      refine wl_istore_n hX (lv' := [(3, .int 0), (0, .ref (ad 5)), (1, .int (nI p)), (2, .int z)]) rfl (by decide) dX5_here_25 ?_
      refine wl_aload_n hX 1 rfl dX5_here_26 ?_
      refine gf_X5_5 hX tb_505 dX5_here_27 ?_
      refine wl_iload_n hX 2 rfl dX5_here_30 ?_
      refine wl_iload_n hX 3 rfl dX5_here_31 ?_
      refine wl_zast hX p kc_21 rfl (by omega) hz dX5_here_32 ?_
      refine wl_iload_n hX 0 rfl dX5_here_33 ?_
      exact wl_ireturn hT dX5_here_34 (hx_ri (by unfold hereR; rw [if_neg kb, xp]; unfold onF; rw [if_pos h2]))
    · refine wl_iconst hX (v := 1) dX5_here_20 (by decide) ?_
      refine wl_goto hX (tgt := 25) dX5_here_21 (by decide) ?_
      refine wl_istore_n hX (lv' := [(3, .int 1), (0, .ref (ad 5)), (1, .int (nI p)), (2, .int z)]) rfl (by decide) dX5_here_25 ?_
      refine wl_aload_n hX 1 rfl dX5_here_26 ?_
      refine gf_X5_5 hX tb_505 dX5_here_27 ?_
      refine wl_iload_n hX 2 rfl dX5_here_30 ?_
      refine wl_iload_n hX 3 rfl dX5_here_31 ?_
      refine wl_zast hX p kc_21 rfl (by omega) hz dX5_here_32 ?_
      refine wl_iload_n hX 0 rfl dX5_here_33 ?_
      exact wl_ireturn hT dX5_here_34 (hx_ri (by unfold hereR; rw [if_neg kb, xp]; unfold onF; rw [if_neg h2]))
  · rw [hx_ifn (fun w => w h1)] at hT
    refine wl_bipush hX (v := (-101)) dX5_here_8 (by decide) ?_
    exact wl_ireturn hT dX5_here_10 (hx_ri (by unfold hereR; rw [if_pos h1]))

set_option maxHeartbeats 400000 in
theorem c_X5_voices {l : Launch} {D : va_G} {ad : Nat → Nat} {cy : Nat → ClassId} (hi : hx_inj ad) (I : MI) (J : MJ) (x y : Int32) (P : Nat) (hP : I 5 0 = nI P) (hP12 : P ≤ 12) (Q : Nat) (hQ : I 5 1 = nI Q) (hQ6 : Q ≤ 6) : Ct l D ad cy yX5_voices cX5_voices 3 (some .int) 2 [.ref (ad 5), .int x, .int y] I J (hx_is (some (.int (twoR P Q (-2000) (vM I) x y))) I J) := by
  refine ct_start hi (by decide +kernel) (Nat.le_of_ble_eq_true rfl) (fun X hX hT => ?_)
  show X 0 [(0, .ref (ad 5)), (1, .int x), (2, .int y)] [] I J
  refine wl_aload_n hX 0 rfl dX5_voices_0 ?_
  refine wl_iload_n hX 1 rfl dX5_voices_1 ?_
  refine wl_cVi hX (c_X5_isPerson hi I J x P hP hP12) mv_X5_isPerson tb_599 (by decide) rfl rfl rfl rfl (by omega) (Nat.le_of_ble_eq_true rfl) dX5_voices_2 ?_
  refine wl_if_eq hX (tgt := 30) dX5_voices_5 (by decide) (fun h1 => ?_) (fun h1 => ?_)
  · refine wl_sipush hX (v := (-2000)) dX5_voices_30 (by decide) ?_
    exact wl_ireturn hT dX5_voices_33 (hx_ri (by unfold twoR; rw [if_pos (Or.inl h1)]))
  · refine wl_aload_n hX 0 rfl dX5_voices_8 ?_
    refine wl_iload_n hX 2 rfl dX5_voices_9 ?_
    refine wl_cVi hX (c_X5_isQuestion hi I J y Q hQ hQ6) mv_X5_isQuestion tb_603 (by decide) rfl rfl rfl rfl (by omega) (Nat.le_of_ble_eq_true rfl) dX5_voices_10 ?_
    refine wl_if_eq hX (tgt := 30) dX5_voices_13 (by decide) (fun h2 => ?_) (fun h2 => ?_)
    · refine wl_sipush hX (v := (-2000)) dX5_voices_30 (by decide) ?_
      exact wl_ireturn hT dX5_voices_33 (hx_ri (by unfold twoR; rw [if_pos (Or.inr h2)]))
    · have kb : ¬ (inF x (nI P) = 0 ∨ inF y (nI Q) = 0) := fun z => z.elim h1 h2
      obtain ⟨p, hp, rfl⟩ := inF_of (by omega) h1
      obtain ⟨q, hq, rfl⟩ := inF_of (by omega) h2
      have xp : xN (nI p) = p := xN_nI (by omega)
      have xq : xN (nI q) = q := xN_nI (by omega)
      refine wl_aload_n hX 0 rfl dX5_voices_16 ?_
      refine gf_X5_6 hX tb_506 dX5_voices_17 ?_
      refine wl_bipush hX (v := 6) dX5_voices_20 (by decide) ?_
      refine wl_iload_n hX 1 rfl dX5_voices_22 ?_
      refine wl_imul hX dX5_voices_23 ?_
      refine wl_iload_n hX 2 rfl dX5_voices_24 ?_
      refine wl_iadd hX dX5_voices_25 ?_
      refine wl_iald hX (6 * p + q) kc_22 (hx_ix6 p q) (by omega) dX5_voices_26 ?_
      refine wl_goto hX (tgt := 33) dX5_voices_27 (by decide) ?_
      exact wl_ireturn hT dX5_voices_33 (hx_ri (by unfold twoR; rw [if_neg kb, xp, xq]; rfl))

set_option maxHeartbeats 400000 in
theorem c_X5_cost {l : Launch} {D : va_G} {ad : Nat → Nat} {cy : Nat → ClassId} (hi : hx_inj ad) (I : MI) (J : MJ) (x : Int32) (P : Nat) (hP : I 5 0 = nI P) (hP12 : P ≤ 12) (Q : Nat) (hQ : I 5 1 = nI Q) (hQ6 : Q ≤ 6) : Ct l D ad cy yX5_cost cX5_cost 2 (some .int) 2 [.ref (ad 5), .int x] I J (hx_is (some (.int (oneR P (-101) (costF (vM I) Q) x))) I J) := by
  refine ct_start hi (by decide +kernel) (Nat.le_of_ble_eq_true rfl) (fun X hX hT => ?_)
  show X 0 [(0, .ref (ad 5)), (1, .int x)] [] I J
  refine wl_aload_n hX 0 rfl dX5_cost_0 ?_
  refine wl_iload_n hX 1 rfl dX5_cost_1 ?_
  refine wl_cVi hX (c_X5_isPerson hi I J x P hP hP12) mv_X5_isPerson tb_599 (by decide) rfl rfl rfl rfl (by omega) (Nat.le_of_ble_eq_true rfl) dX5_cost_2 ?_
  refine wl_if_eq hX (tgt := 16) dX5_cost_5 (by decide) (fun h1 => ?_) (fun h1 => ?_)
  · refine wl_bipush hX (v := (-101)) dX5_cost_16 (by decide) ?_
    exact wl_ireturn hT dX5_cost_18 (hx_ri (by unfold oneR; rw [if_pos h1]))
  · have kb : ¬ inF x (nI P) = 0 := h1
    obtain ⟨p, hp, rfl⟩ := inF_of (by omega) h1
    have xp : xN (nI p) = p := xN_nI (by omega)
    refine wl_aload_n hX 0 rfl dX5_cost_8 ?_
    refine wl_iload_n hX 1 rfl dX5_cost_9 ?_
    refine wl_cVi hX (c_X5_costOf hi I J p (by omega) Q hQ hQ6) mv_X5_costOf tb_607 (by decide) rfl rfl rfl rfl (by omega) (Nat.le_of_ble_eq_true rfl) dX5_cost_10 ?_
    refine wl_goto hX (tgt := 18) dX5_cost_13 (by decide) ?_
    exact wl_ireturn hT dX5_cost_18 (hx_ri (by unfold oneR; rw [if_neg kb, xp]))

set_option maxHeartbeats 400000 in
theorem c_X5_total {l : Launch} {D : va_G} {ad : Nat → Nat} {cy : Nat → ClassId} (hi : hx_inj ad) (I : MI) (J : MJ) (x : Int32) (P : Nat) (hP : I 5 0 = nI P) (hP12 : P ≤ 12) (Q : Nat) (hQ : I 5 1 = nI Q) (hQ6 : Q ≤ 6) : Ct l D ad cy yX5_total cX5_total 2 (some .int) 2 [.ref (ad 5), .int x] I J (hx_is (some (.int (oneR Q (-2000) ((fun q => countF (I 21) (vM I) P q)) x))) I J) := by
  refine ct_start hi (by decide +kernel) (Nat.le_of_ble_eq_true rfl) (fun X hX hT => ?_)
  show X 0 [(0, .ref (ad 5)), (1, .int x)] [] I J
  refine wl_aload_n hX 0 rfl dX5_total_0 ?_
  refine wl_iload_n hX 1 rfl dX5_total_1 ?_
  refine wl_cVi hX (c_X5_isQuestion hi I J x Q hQ hQ6) mv_X5_isQuestion tb_603 (by decide) rfl rfl rfl rfl (by omega) (Nat.le_of_ble_eq_true rfl) dX5_total_2 ?_
  refine wl_if_eq hX (tgt := 17) dX5_total_5 (by decide) (fun h1 => ?_) (fun h1 => ?_)
  · refine wl_sipush hX (v := (-2000)) dX5_total_17 (by decide) ?_
    exact wl_ireturn hT dX5_total_20 (hx_ri (by unfold oneR; rw [if_pos h1]))
  · have kb : ¬ inF x (nI Q) = 0 := h1
    obtain ⟨p, hp, rfl⟩ := inF_of (by omega) h1
    have xp : xN (nI p) = p := xN_nI (by omega)
    refine wl_aload_n hX 0 rfl dX5_total_8 ?_
    refine wl_iload_n hX 1 rfl dX5_total_9 ?_
    refine wl_iconst hX (v := (-1)) dX5_total_10 (by decide) ?_
    refine wl_cVi hX (c_X5_others_all hi I J p (by omega) P hP hP12) mv_X5_others tb_631 (by decide) rfl rfl rfl rfl (by omega) (Nat.le_of_ble_eq_true rfl) dX5_total_11 ?_
    refine wl_goto hX (tgt := 20) dX5_total_14 (by decide) ?_
    exact wl_ireturn hT dX5_total_20 (hx_ri (by unfold oneR; rw [if_neg kb, xp]))

set_option maxHeartbeats 400000 in
theorem c_X5_gain {l : Launch} {D : va_G} {ad : Nat → Nat} {cy : Nat → ClassId} (hi : hx_inj ad) (I : MI) (J : MJ) (x : Int32) (P : Nat) (hP : I 5 0 = nI P) (hP12 : P ≤ 12) (Q : Nat) (hQ : I 5 1 = nI Q) (hQ6 : Q ≤ 6) : Ct l D ad cy yX5_gain cX5_gain 2 (some .int) 2 [.ref (ad 5), .int x] I J (hx_is (some (.int (oneR P (-2000000) (gainF (I 21) (vM I) (wM I) P Q) x))) I J) := by
  refine ct_start hi (by decide +kernel) (Nat.le_of_ble_eq_true rfl) (fun X hX hT => ?_)
  show X 0 [(0, .ref (ad 5)), (1, .int x)] [] I J
  refine wl_aload_n hX 0 rfl dX5_gain_0 ?_
  refine wl_iload_n hX 1 rfl dX5_gain_1 ?_
  refine wl_cVi hX (c_X5_isPerson hi I J x P hP hP12) mv_X5_isPerson tb_599 (by decide) rfl rfl rfl rfl (by omega) (Nat.le_of_ble_eq_true rfl) dX5_gain_2 ?_
  refine wl_if_eq hX (tgt := 16) dX5_gain_5 (by decide) (fun h1 => ?_) (fun h1 => ?_)
  · refine wl_ldc hX tb_656 dX5_gain_16 ?_
    exact wl_ireturn hT dX5_gain_18 (hx_ri (by unfold oneR; rw [if_pos h1]))
  · have kb : ¬ inF x (nI P) = 0 := h1
    obtain ⟨p, hp, rfl⟩ := inF_of (by omega) h1
    have xp : xN (nI p) = p := xN_nI (by omega)
    refine wl_aload_n hX 0 rfl dX5_gain_8 ?_
    refine wl_iload_n hX 1 rfl dX5_gain_9 ?_
    refine wl_cVi hX (c_X5_gainOf hi I J p (by omega) P hP hP12 Q hQ hQ6) mv_X5_gainOf tb_649 (by decide) rfl rfl rfl rfl (by omega) (Nat.le_of_ble_eq_true rfl) dX5_gain_10 ?_
    refine wl_goto hX (tgt := 18) dX5_gain_13 (by decide) ?_
    exact wl_ireturn hT dX5_gain_18 (hx_ri (by unfold oneR; rw [if_neg kb, xp]))

set_option maxHeartbeats 400000 in
theorem c_X5_result {l : Launch} {D : va_G} {ad : Nat → Nat} {cy : Nat → ClassId} (hi : hx_inj ad) (I : MI) (J : MJ) (x : Int32) (P : Nat) (hP : I 5 0 = nI P) (hP12 : P ≤ 12) (Q : Nat) (hQ : I 5 1 = nI Q) (hQ6 : Q ≤ 6) : Ct l D ad cy yX5_result cX5_result 2 (some .int) 2 [.ref (ad 5), .int x] I J (hx_is (some (.int (oneR Q (-101) (fun q => resF (I 5 3) q (countF (I 21) (vM I) P q)) x))) I J) := by
  refine ct_start hi (by decide +kernel) (Nat.le_of_ble_eq_true rfl) (fun X hX hT => ?_)
  show X 0 [(0, .ref (ad 5)), (1, .int x)] [] I J
  refine wl_aload_n hX 0 rfl dX5_result_0 ?_
  refine wl_iload_n hX 1 rfl dX5_result_1 ?_
  refine wl_cVi hX (c_X5_isQuestion hi I J x Q hQ hQ6) mv_X5_isQuestion tb_603 (by decide) rfl rfl rfl rfl (by omega) (Nat.le_of_ble_eq_true rfl) dX5_result_2 ?_
  refine wl_if_eq hX (tgt := 22) dX5_result_5 (by decide) (fun h1 => ?_) (fun h1 => ?_)
  · refine wl_bipush hX (v := (-101)) dX5_result_22 (by decide) ?_
    exact wl_ireturn hT dX5_result_24 (hx_ri (by unfold oneR; rw [if_pos h1]))
  · have kb : ¬ inF x (nI Q) = 0 := h1
    obtain ⟨p, hp, rfl⟩ := inF_of (by omega) h1
    have xp : xN (nI p) = p := xN_nI (by omega)
    refine wl_aload_n hX 0 rfl dX5_result_8 ?_
    refine wl_iload_n hX 1 rfl dX5_result_9 ?_
    refine wl_aload_n hX 0 rfl dX5_result_10 ?_
    refine wl_iload_n hX 1 rfl dX5_result_11 ?_
    refine wl_iconst hX (v := (-1)) dX5_result_12 (by decide) ?_
    refine wl_cVi hX (c_X5_others_all hi I J p (by omega) P hP hP12) mv_X5_others tb_631 (by decide) rfl rfl rfl rfl (by omega) (Nat.le_of_ble_eq_true rfl) dX5_result_13 ?_
    refine wl_cVi hX (c_X5_resultOf hi I J p (countF (I 21) (vM I) P p) (by omega)) mv_X5_resultOf tb_639 (by decide) rfl rfl rfl rfl (by omega) (Nat.le_of_ble_eq_true rfl) dX5_result_16 ?_
    refine wl_goto hX (tgt := 24) dX5_result_19 (by decide) ?_
    exact wl_ireturn hT dX5_result_24 (hx_ri (by unfold oneR; rw [if_neg kb, xp]))

set_option maxHeartbeats 400000 in
theorem c_X5_swings {l : Launch} {D : va_G} {ad : Nat → Nat} {cy : Nat → ClassId} (hi : hx_inj ad) (I : MI) (J : MJ) (x : Int32) (P : Nat) (hP : I 5 0 = nI P) (hP12 : P ≤ 12) (Q : Nat) (hQ : I 5 1 = nI Q) (hQ6 : Q ≤ 6) : Ct l D ad cy yX5_swings cX5_swings 5 (some .int) 2 [.ref (ad 5), .int x] I J (hx_is (some (.int (oneR P (-101) (swF (I 5 3) (I 21) (vM I) P Q) x))) I J) := by
  refine ct_start hi (by decide +kernel) (Nat.le_of_ble_eq_true rfl) (fun X hX hT => ?_)
  show X 0 [(0, .ref (ad 5)), (1, .int x)] [] I J
  refine wl_aload_n hX 0 rfl dX5_swings_0 ?_
  refine wl_iload_n hX 1 rfl dX5_swings_1 ?_
  refine wl_cVi hX (c_X5_isPerson hi I J x P hP hP12) mv_X5_isPerson tb_599 (by decide) rfl rfl rfl rfl (by omega) (Nat.le_of_ble_eq_true rfl) dX5_swings_2 ?_
  refine wl_if_ne hX (tgt := 11) dX5_swings_5 (by decide) (fun h1 => ?_) (fun h1 => ?_)
  · have kb : ¬ inF x (nI P) = 0 := h1
    obtain ⟨p, hp, rfl⟩ := inF_of (by omega) h1
    have xp : xN (nI p) = p := xN_nI (by omega)
    refine wl_iconst hX (v := 0) dX5_swings_11 (by decide) ?_
    refine wl_istore_n hX (lv' := [(2, .int 0), (0, .ref (ad 5)), (1, .int (nI p))]) rfl (by decide) dX5_swings_12 ?_
    refine wl_iconst hX (v := 0) dX5_swings_13 (by decide) ?_
    refine wl_istore_n hX (lv' := [(3, .int 0), (2, .int 0), (0, .ref (ad 5)), (1, .int (nI p))]) rfl (by decide) dX5_swings_14 ?_
    refine wl_sub hX [2, 3, 1, 0] rfl ?_
    have L : ∀ (k q : Nat), q ≤ Q → Q - q < k → X 15 [(0, .ref (ad 5)), (1, .int (nI p)), (2, .int (swF (I 5 3) (I 21) (vM I) P q p)), (3, .int (nI q))] [] I J := by
      intro k
      induction k with
      | zero => exact fun _  _ h => absurd h (Nat.not_lt_zero _)
      | succ k ihL =>
        intro q  hqn hqk
        refine wl_iload_n hX 3 rfl dX5_swings_15 ?_
        refine wl_aload_n hX 0 rfl dX5_swings_16 ?_
        refine gf_X5_1 hX tb_501 dX5_swings_17 ?_
        refine wl_eqi (y := nI Q) hQ ?_
        refine wl_icmp_ge hX (tgt := 76) dX5_swings_20 (by decide) (fun hqc => ?_) (fun hqc => ?_)
        · have hqe : q = Q := by
            have h9 := (nI_leI (by omega) (by omega)).mp hqc
            omega
          refine wl_iload_n hX 2 rfl dX5_swings_76 ?_
          exact wl_ireturn hT dX5_swings_77 (hx_ri (by rw [hqe]; unfold oneR; rw [if_neg kb, xp]))
        · have hq1 : q < Q := Nat.lt_of_not_le (fun z => hqc ((nI_leI (by omega) (by omega)).mpr z))
          refine wl_aload_n hX 0 rfl dX5_swings_23 ?_
          refine wl_iload_n hX 3 rfl dX5_swings_24 ?_
          refine wl_iload_n hX 1 rfl dX5_swings_25 ?_
          refine wl_cVi hX (c_X5_others hi I J q (by omega) P hP hP12 p hp) mv_X5_others tb_631 (by decide) rfl rfl rfl rfl (by omega) (Nat.le_of_ble_eq_true rfl) dX5_swings_26 ?_
          refine wl_istore hX (lv' := [(4, .int (lessF (I 21) (vM I) P p q)), (0, .ref (ad 5)), (1, .int (nI p)), (2, .int (swF (I 5 3) (I 21) (vM I) P q p)), (3, .int (nI q))]) rfl (by decide) dX5_swings_29 ?_
          refine wl_iload_n hX 3 rfl dX5_swings_31 ?_
          refine wl_aload_n hX 1 rfl dX5_swings_32 ?_
          refine wl_iload_n hX 4 rfl dX5_swings_33 ?_
          refine wl_iload hX 0 rfl dX5_swings_34 ?_
          refine wl_cVi hX (c_X5_resultOf hi I J q (lessF (I 21) (vM I) P p q) (by omega)) mv_X5_resultOf tb_639 (by decide) rfl rfl rfl rfl (by omega) (Nat.le_of_ble_eq_true rfl) dX5_swings_36 ?_
          refine wl_aload_n hX 1 rfl dX5_swings_39 ?_
          refine wl_iload_n hX 4 rfl dX5_swings_40 ?_
          refine wl_iload hX 0 rfl dX5_swings_41 ?_
          refine wl_aload_n hX 1 rfl dX5_swings_43 ?_
          refine gf_X5_6 hX tb_506 dX5_swings_44 ?_
          refine wl_bipush hX (v := 6) dX5_swings_47 (by decide) ?_
          refine wl_iload_n hX 2 rfl dX5_swings_49 ?_
          refine wl_imul hX dX5_swings_50 ?_
          refine wl_iload_n hX 4 rfl dX5_swings_51 ?_
          refine wl_iadd hX dX5_swings_52 ?_
          refine wl_iald hX (6 * p + q) kc_22 (hx_ix6 p q) (by omega) dX5_swings_53 ?_
          refine wl_iadd hX dX5_swings_54 ?_
          refine wl_cVi hX (c_X5_resultOf hi I J q (lessF (I 21) (vM I) P p q + I 22 (6 * p + q)) (by omega)) mv_X5_resultOf tb_639 (by decide) rfl rfl rfl rfl (by omega) (Nat.le_of_ble_eq_true rfl) dX5_swings_55 ?_
          have e2 : swF (I 5 3) (I 21) (vM I) P (q + 1) p = swF (I 5 3) (I 21) (vM I) P q p ||| (if resF (I 5 3) q (lessF (I 21) (vM I) P p q) = resF (I 5 3) q (lessF (I 21) (vM I) P p q + I 22 (6 * p + q)) then (0 : Int32) else 1 <<< (nI q &&& 31)) := rfl
          refine wl_icmp_eq hX (tgt := 67) dX5_swings_58 (by decide) (fun h2 => ?_) (fun h2 => ?_)
          · rw [if_pos h2] at e2
            refine wl_iconst hX (v := 0) dX5_swings_67 (by decide) ?_
            refine wl_ior hX dX5_swings_68 ?_
            refine wl_eqi (y := swF (I 5 3) (I 21) (vM I) P (q + 1) p) e2.symm ?_
            refine wl_istore_n hX (lv' := [(2, .int (swF (I 5 3) (I 21) (vM I) P (q + 1) p)), (4, .int (lessF (I 21) (vM I) P p q)), (0, .ref (ad 5)), (1, .int (nI p)), (3, .int (nI q))]) rfl (by decide) dX5_swings_69 ?_
            refine wl_iinc hX (v := nI (q + 1)) (lv' := [(3, .int (nI (q + 1))), (2, .int (swF (I 5 3) (I 21) (vM I) P (q + 1) p)), (4, .int (lessF (I 21) (vM I) P p q)), (0, .ref (ad 5)), (1, .int (nI p))]) 4 rfl (nI_1 _) rfl (by decide) dX5_swings_70 ?_
            refine wl_goto hX (tgt := 15) dX5_swings_73 (by decide) ?_
            refine wl_sub hX [3, 4, 1, 0] rfl ?_
            exact ihL (q + 1) (by omega) (by omega)
          · rw [if_neg h2] at e2
            refine wl_iconst hX (v := 1) dX5_swings_61 (by decide) ?_
            refine wl_iload_n hX 4 rfl dX5_swings_62 ?_
            refine wl_ishl hX dX5_swings_63 ?_
            refine wl_goto hX (tgt := 68) dX5_swings_64 (by decide) ?_
            refine wl_ior hX dX5_swings_68 ?_
            refine wl_eqi (y := swF (I 5 3) (I 21) (vM I) P (q + 1) p) e2.symm ?_
            refine wl_istore_n hX (lv' := [(2, .int (swF (I 5 3) (I 21) (vM I) P (q + 1) p)), (4, .int (lessF (I 21) (vM I) P p q)), (0, .ref (ad 5)), (1, .int (nI p)), (3, .int (nI q))]) rfl (by decide) dX5_swings_69 ?_
            refine wl_iinc hX (v := nI (q + 1)) (lv' := [(3, .int (nI (q + 1))), (2, .int (swF (I 5 3) (I 21) (vM I) P (q + 1) p)), (4, .int (lessF (I 21) (vM I) P p q)), (0, .ref (ad 5)), (1, .int (nI p))]) 4 rfl (nI_1 _) rfl (by decide) dX5_swings_70 ?_
            refine wl_goto hX (tgt := 15) dX5_swings_73 (by decide) ?_
            refine wl_sub hX [3, 4, 1, 0] rfl ?_
            exact ihL (q + 1) (by omega) (by omega)
    exact L (Q + 1) 0 (by omega) (by omega)
  · refine wl_bipush hX (v := (-101)) dX5_swings_8 (by decide) ?_
    exact wl_ireturn hT dX5_swings_10 (hx_ri (by unfold oneR; rw [if_pos h1]))

set_option maxHeartbeats 400000 in
theorem c_X5_best {l : Launch} {D : va_G} {ad : Nat → Nat} {cy : Nat → ClassId} (hi : hx_inj ad) (I : MI) (J : MJ) (x : Int32) (P : Nat) (hP : I 5 0 = nI P) (hP12 : P ≤ 12) (Q : Nat) (hQ : I 5 1 = nI Q) (hQ6 : Q ≤ 6) : Ct l D ad cy yX5_best cX5_best 2 (some .int) 3 [.ref (ad 5), .int x] I J (hx_is (some (.int (oneR P (-2000000) (fun p => fmM I P Q p 5 18) x))) (hx_if (¬ inF x (nI P) = 0) (fmM I P Q (xN x)) I) J) := by
  refine ct_start hi (by decide +kernel) (Nat.le_of_ble_eq_true rfl) (fun X hX hT => ?_)
  show X 0 [(0, .ref (ad 5)), (1, .int x)] [] I J
  refine wl_aload_n hX 0 rfl dX5_best_0 ?_
  refine wl_iload_n hX 1 rfl dX5_best_1 ?_
  refine wl_cVi hX (c_X5_isPerson hi I J x P hP hP12) mv_X5_isPerson tb_599 (by decide) rfl rfl rfl rfl (by omega) (Nat.le_of_ble_eq_true rfl) dX5_best_2 ?_
  refine wl_if_ne hX (tgt := 11) dX5_best_5 (by decide) (fun h1 => ?_) (fun h1 => ?_)
  · have kb : ¬ inF x (nI P) = 0 := h1
    obtain ⟨p, hp, rfl⟩ := inF_of (by omega) h1
    have xp : xN (nI p) = p := xN_nI (by omega)
    rw [hx_ifp kb, xp] at hT
    refine wl_aload_n hX 0 rfl dX5_best_11 ?_
    refine wl_iload_n hX 1 rfl dX5_best_12 ?_
    refine wl_cVv hX (c_X5_find hi I J P hP hP12 p hp Q hQ hQ6) mv_X5_find tb_665 (by decide) rfl rfl rfl rfl (by omega) (Nat.le_of_ble_eq_true rfl) dX5_best_13 ?_
    refine wl_aload_n hX 0 rfl dX5_best_16 ?_
    refine gf_X5_18 hX tb_518 dX5_best_17 ?_
    exact wl_ireturn hT dX5_best_20 (hx_ri (by unfold oneR; rw [if_neg kb, xp]))
  · rw [hx_ifn (fun w => w h1)] at hT
    refine wl_ldc hX tb_656 dX5_best_8 ?_
    exact wl_ireturn hT dX5_best_10 (hx_ri (by unfold oneR; rw [if_pos h1]))

set_option maxHeartbeats 400000 in
theorem c_X5_answer {l : Launch} {D : va_G} {ad : Nat → Nat} {cy : Nat → ClassId} (hi : hx_inj ad) (I : MI) (J : MJ) (x y : Int32) (P : Nat) (hP : I 5 0 = nI P) (hP12 : P ≤ 12) (Q : Nat) (hQ : I 5 1 = nI Q) (hQ6 : Q ≤ 6) : Ct l D ad cy yX5_answer cX5_answer 3 (some .int) 3 [.ref (ad 5), .int x, .int y] I J (hx_is (some (.int (twoR P Q (-2000) (fun p q => fmM I P Q p 28 q) x y))) (hx_if (¬ (inF x (nI P) = 0 ∨ inF y (nI Q) = 0)) (fmM I P Q (xN x)) I) J) := by
  refine ct_start hi (by decide +kernel) (Nat.le_of_ble_eq_true rfl) (fun X hX hT => ?_)
  show X 0 [(0, .ref (ad 5)), (1, .int x), (2, .int y)] [] I J
  refine wl_aload_n hX 0 rfl dX5_answer_0 ?_
  refine wl_iload_n hX 1 rfl dX5_answer_1 ?_
  refine wl_cVi hX (c_X5_isPerson hi I J x P hP hP12) mv_X5_isPerson tb_599 (by decide) rfl rfl rfl rfl (by omega) (Nat.le_of_ble_eq_true rfl) dX5_answer_2 ?_
  refine wl_if_eq hX (tgt := 16) dX5_answer_5 (by decide) (fun h1 => ?_) (fun h1 => ?_)
  · rw [hx_ifn (fun w => w (Or.inl h1))] at hT
    refine wl_sipush hX (v := (-2000)) dX5_answer_16 (by decide) ?_
    exact wl_ireturn hT dX5_answer_19 (hx_ri (by unfold twoR; rw [if_pos (Or.inl h1)]))
  · refine wl_aload_n hX 0 rfl dX5_answer_8 ?_
    refine wl_iload_n hX 2 rfl dX5_answer_9 ?_
    refine wl_cVi hX (c_X5_isQuestion hi I J y Q hQ hQ6) mv_X5_isQuestion tb_603 (by decide) rfl rfl rfl rfl (by omega) (Nat.le_of_ble_eq_true rfl) dX5_answer_10 ?_
    refine wl_if_ne hX (tgt := 20) dX5_answer_13 (by decide) (fun h2 => ?_) (fun h2 => ?_)
    · have kb : ¬ (inF x (nI P) = 0 ∨ inF y (nI Q) = 0) := fun z => z.elim h1 h2
      obtain ⟨p, hp, rfl⟩ := inF_of (by omega) h1
      obtain ⟨q, hq, rfl⟩ := inF_of (by omega) h2
      have xp : xN (nI p) = p := xN_nI (by omega)
      have xq : xN (nI q) = q := xN_nI (by omega)
      rw [hx_ifp kb, xp] at hT
      refine wl_aload_n hX 0 rfl dX5_answer_20 ?_
      refine wl_iload_n hX 1 rfl dX5_answer_21 ?_
      refine wl_cVv hX (c_X5_find hi I J P hP hP12 p hp Q hQ hQ6) mv_X5_find tb_665 (by decide) rfl rfl rfl rfl (by omega) (Nat.le_of_ble_eq_true rfl) dX5_answer_22 ?_
      refine wl_aload_n hX 0 rfl dX5_answer_25 ?_
      refine gf_X5_16 hX tb_516 dX5_answer_26 ?_
      refine wl_iload_n hX 2 rfl dX5_answer_29 ?_
      refine wl_iald hX q kc_28 rfl (by omega) dX5_answer_30 ?_
      exact wl_ireturn hT dX5_answer_31 (hx_ri (by unfold twoR; rw [if_neg kb, xp, xq]))
    · rw [hx_ifn (fun w => w (Or.inr h2))] at hT
      refine wl_sipush hX (v := (-2000)) dX5_answer_16 (by decide) ?_
      exact wl_ireturn hT dX5_answer_19 (hx_ri (by unfold twoR; rw [if_pos (Or.inr h2)]))

set_option maxHeartbeats 400000 in
theorem c_X5_take {l : Launch} {D : va_G} {ad : Nat → Nat} {cy : Nat → ClassId} (hi : hx_inj ad) (I : MI) (J : MJ) (x : Int32) (P : Nat) (hP : I 5 0 = nI P) (hP12 : P ≤ 12) (Q : Nat) (hQ : I 5 1 = nI Q) (hQ6 : Q ≤ 6) : Ct l D ad cy yX5_take cX5_take 2 (some .int) 3 [.ref (ad 5), .int x] I J (hx_is (some (.int (takeR P (I 21) (fun p => costF (vM (adM (fmM I P Q p) p Q)) Q p) x))) (hx_if (takeW P (I 21) x) (adM (fmM I P Q (xN x)) (xN x) Q) I) J) := by
  refine ct_start hi (by decide +kernel) (Nat.le_of_ble_eq_true rfl) (fun X hX hT => ?_)
  show X 0 [(0, .ref (ad 5)), (1, .int x)] [] I J
  refine wl_aload_n hX 0 rfl dX5_take_0 ?_
  refine wl_iload_n hX 1 rfl dX5_take_1 ?_
  refine wl_cVi hX (c_X5_isPerson hi I J x P hP hP12) mv_X5_isPerson tb_599 (by decide) rfl rfl rfl rfl (by omega) (Nat.le_of_ble_eq_true rfl) dX5_take_2 ?_
  refine wl_if_ne hX (tgt := 11) dX5_take_5 (by decide) (fun h1 => ?_) (fun h1 => ?_)
  · have kb : ¬ inF x (nI P) = 0 := h1
    obtain ⟨p, hp, rfl⟩ := inF_of (by omega) h1
    have xp : xN (nI p) = p := xN_nI (by omega)
    refine wl_aload_n hX 0 rfl dX5_take_11 ?_
    refine gf_X5_5 hX tb_505 dX5_take_12 ?_
    refine wl_iload_n hX 1 rfl dX5_take_15 ?_
    refine wl_zald hX p kc_21 rfl (by omega) dX5_take_16 ?_
    refine wl_if_ne hX (tgt := 23) dX5_take_17 (by decide) (fun h2 => ?_) (fun h2 => ?_)
    · rw [hx_ifp ⟨kb, by rw [xp]; exact h2⟩, xp] at hT
      refine wl_aload_n hX 0 rfl dX5_take_23 ?_
      refine wl_iload_n hX 1 rfl dX5_take_24 ?_
      refine wl_cVv hX (c_X5_find hi I J P hP hP12 p hp Q hQ hQ6) mv_X5_find tb_665 (by decide) rfl rfl rfl rfl (by omega) (Nat.le_of_ble_eq_true rfl) dX5_take_25 ?_
      have f2 : fmM I P Q p 5 1 = nI Q := by rw [fmM_5 (by decide) (by decide) (by decide)]; exact hQ
      refine wl_aload_n hX 0 rfl dX5_take_28 ?_
      refine wl_iload_n hX 1 rfl dX5_take_29 ?_
      refine wl_cVv hX (c_X5_adopt hi (fmM I P Q p) J p (by omega) Q f2 hQ6) mv_X5_adopt tb_685 (by decide) rfl rfl rfl rfl (by omega) (Nat.le_of_ble_eq_true rfl) dX5_take_30 ?_
      refine wl_aload_n hX 0 rfl dX5_take_33 ?_
      refine wl_iload_n hX 1 rfl dX5_take_34 ?_
      refine wl_cVi hX (c_X5_costOf hi (adM (fmM I P Q p) p Q) J p (by omega) Q (by rw [adM_ne (by decide)]; exact f2) hQ6) mv_X5_costOf tb_607 (by decide) rfl rfl rfl rfl (by omega) (Nat.le_of_ble_eq_true rfl) dX5_take_35 ?_
      exact wl_ireturn hT dX5_take_38 (hx_ri (by unfold takeR; rw [if_neg kb, xp, if_neg h2]))
    · rw [hx_ifn (fun w => w.2 (by rw [xp]; exact h2))] at hT
      refine wl_bipush hX (v := (-103)) dX5_take_20 (by decide) ?_
      exact wl_ireturn hT dX5_take_22 (hx_ri (by unfold takeR; rw [if_neg kb, xp, if_pos h2]))
  · rw [hx_ifn (fun w => w.1 h1)] at hT
    refine wl_bipush hX (v := (-101)) dX5_take_8 (by decide) ?_
    exact wl_ireturn hT dX5_take_10 (hx_ri (by unfold takeR; rw [if_pos h1]))

set_option maxHeartbeats 400000 in
theorem c_X5_ended {l : Launch} {D : va_G} {ad : Nat → Nat} {cy : Nat → ClassId} (hi : hx_inj ad) (I : MI) (J : MJ)  : Ct l D ad cy yX5_ended cX5_ended 1 (some .int) 0 [.ref (ad 5)] I J (hx_is (some (.int (I 5 12))) I J) := by
  refine ct_start hi (by decide +kernel) (Nat.le_of_ble_eq_true rfl) (fun X hX hT => ?_)
  show X 0 [(0, .ref (ad 5))] [] I J
  refine wl_aload_n hX 0 rfl dX5_ended_0 ?_
  refine gf_X5_12 hX tb_512 dX5_ended_1 ?_
  exact wl_ireturn hT dX5_ended_4 (hx_ri rfl)

set_option maxHeartbeats 400000 in
theorem c_X5_ring {l : Launch} {D : va_G} {ad : Nat → Nat} {cy : Nat → ClassId} (hi : hx_inj ad) (I : MI) (J : MJ)  : Ct l D ad cy yX5_ring cX5_ring 1 (some .int) 0 [.ref (ad 5)] I J (hx_is (some (.int (I 5 13))) I J) := by
  refine ct_start hi (by decide +kernel) (Nat.le_of_ble_eq_true rfl) (fun X hX hT => ?_)
  show X 0 [(0, .ref (ad 5))] [] I J
  refine wl_aload_n hX 0 rfl dX5_ring_0 ?_
  refine gf_X5_13 hX tb_513 dX5_ring_1 ?_
  exact wl_ireturn hT dX5_ring_4 (hx_ri rfl)

set_option maxHeartbeats 400000 in
theorem c_X5_bond {l : Launch} {D : va_G} {ad : Nat → Nat} {cy : Nat → ClassId} (hi : hx_inj ad) (I : MI) (J : MJ) (x y z : Int32) (P : Nat) (hP : I 5 0 = nI P) (hP12 : P ≤ 12) : Ct l D ad cy yX5_bond cX5_bond 5 (some .int) 2 [.ref (ad 5), .int x, .int y, .int z] I J (hx_is (some (.int (bondR P (bM I) x y z))) (hx_if (bondW P x y z) (hx_u (hx_u I 25 (12 * xN x + xN y) z) 25 (12 * xN y + xN x) z) I) J) := by
  refine ct_start hi (by decide +kernel) (Nat.le_of_ble_eq_true rfl) (fun X hX hT => ?_)
  show X 0 [(0, .ref (ad 5)), (1, .int x), (2, .int y), (3, .int z)] [] I J
  refine wl_aload_n hX 0 rfl dX5_bond_0 ?_
  refine wl_iload_n hX 1 rfl dX5_bond_1 ?_
  refine wl_cVi hX (c_X5_isPerson hi I J x P hP hP12) mv_X5_isPerson tb_599 (by decide) rfl rfl rfl rfl (by omega) (Nat.le_of_ble_eq_true rfl) dX5_bond_2 ?_
  refine wl_if_eq hX (tgt := 16) dX5_bond_5 (by decide) (fun h1 => ?_) (fun h1 => ?_)
  · rw [hx_ifn (fun w => w.1 (Or.inl h1))] at hT
    refine wl_bipush hX (v := (-101)) dX5_bond_16 (by decide) ?_
    exact wl_ireturn hT dX5_bond_18 (hx_ri (by unfold bondR; rw [if_pos (Or.inl h1)]))
  · refine wl_aload_n hX 0 rfl dX5_bond_8 ?_
    refine wl_iload_n hX 2 rfl dX5_bond_9 ?_
    refine wl_cVi hX (c_X5_isPerson hi I J y P hP hP12) mv_X5_isPerson tb_599 (by decide) rfl rfl rfl rfl (by omega) (Nat.le_of_ble_eq_true rfl) dX5_bond_10 ?_
    refine wl_if_ne hX (tgt := 19) dX5_bond_13 (by decide) (fun h2 => ?_) (fun h2 => ?_)
    · have kb : ¬ (inF x (nI P) = 0 ∨ inF y (nI P) = 0) := fun z => z.elim h1 h2
      obtain ⟨p, hp, rfl⟩ := inF_of (by omega) h1
      obtain ⟨q, hq, rfl⟩ := inF_of (by omega) h2
      have xp : xN (nI p) = p := xN_nI (by omega)
      have xq : xN (nI q) = q := xN_nI (by omega)
      refine wl_iload_n hX 1 rfl dX5_bond_19 ?_
      refine wl_iload_n hX 2 rfl dX5_bond_20 ?_
      refine wl_icmp_eq hX (tgt := 35) dX5_bond_21 (by decide) (fun h3 => ?_) (fun h3 => ?_)
      · rw [hx_ifn (fun w => w.2 (Or.inl h3))] at hT
        refine wl_bipush hX (v := (-102)) dX5_bond_35 (by decide) ?_
        exact wl_ireturn hT dX5_bond_37 (hx_ri (by unfold bondR; rw [if_neg kb, if_pos (Or.inl h3)]))
      · refine wl_iload_n hX 3 rfl dX5_bond_24 ?_
        refine wl_iconst hX (v := 0) dX5_bond_25 (by decide) ?_
        refine wl_sipush hX (v := 1000) dX5_bond_26 (by decide) ?_
        refine wl_cSi hX (c_X5_in hi I J z 0 1000) mv_X5_in tb_580 rfl rfl (by omega) (Nat.le_of_ble_eq_true rfl) dX5_bond_29 ?_
        refine wl_if_ne hX (tgt := 38) dX5_bond_32 (by decide) (fun h4 => ?_) (fun h4 => ?_)
        · rw [hx_ifp ⟨kb, fun w => w.elim h3 h4⟩, xp, xq] at hT
          refine wl_aload_n hX 0 rfl dX5_bond_38 ?_
          refine gf_X5_9 hX tb_509 dX5_bond_39 ?_
          refine wl_bipush hX (v := 12) dX5_bond_42 (by decide) ?_
          refine wl_iload_n hX 1 rfl dX5_bond_44 ?_
          refine wl_imul hX dX5_bond_45 ?_
          refine wl_iload_n hX 2 rfl dX5_bond_46 ?_
          refine wl_iadd hX dX5_bond_47 ?_
          refine wl_iald hX (12 * p + q) kc_25 (hx_ix12 p q) (by omega) dX5_bond_48 ?_
          refine wl_istore hX (lv' := [(4, .int (I 25 (12 * p + q))), (0, .ref (ad 5)), (1, .int (nI p)), (2, .int (nI q)), (3, .int z)]) rfl (by decide) dX5_bond_49 ?_
          refine wl_aload_n hX 1 rfl dX5_bond_51 ?_
          refine gf_X5_9 hX tb_509 dX5_bond_52 ?_
          refine wl_bipush hX (v := 12) dX5_bond_55 (by decide) ?_
          refine wl_iload_n hX 2 rfl dX5_bond_57 ?_
          refine wl_imul hX dX5_bond_58 ?_
          refine wl_iload_n hX 3 rfl dX5_bond_59 ?_
          refine wl_iadd hX dX5_bond_60 ?_
          refine wl_iload_n hX 4 rfl dX5_bond_61 ?_
          refine wl_iast hX (12 * p + q) kc_25 (hx_ix12 p q) (by omega) dX5_bond_62 ?_
          refine wl_aload_n hX 1 rfl dX5_bond_63 ?_
          refine gf_X5_9 hX tb_509 dX5_bond_64 ?_
          refine wl_bipush hX (v := 12) dX5_bond_67 (by decide) ?_
          refine wl_iload_n hX 3 rfl dX5_bond_69 ?_
          refine wl_imul hX dX5_bond_70 ?_
          refine wl_iload_n hX 2 rfl dX5_bond_71 ?_
          refine wl_iadd hX dX5_bond_72 ?_
          refine wl_iload_n hX 4 rfl dX5_bond_73 ?_
          refine wl_iast hX (12 * q + p) kc_25 (hx_ix12 q p) (by omega) dX5_bond_74 ?_
          refine wl_iload hX 0 rfl dX5_bond_75 ?_
          exact wl_ireturn hT dX5_bond_77 (hx_ri (by unfold bondR; rw [if_neg kb, if_neg (fun w => w.elim h3 h4), xp, xq]; rfl))
        · rw [hx_ifn (fun w => w.2 (Or.inr h4))] at hT
          refine wl_bipush hX (v := (-102)) dX5_bond_35 (by decide) ?_
          exact wl_ireturn hT dX5_bond_37 (hx_ri (by unfold bondR; rw [if_neg kb, if_pos (Or.inr h4)]))
    · rw [hx_ifn (fun w => w.1 (Or.inr h2))] at hT
      refine wl_bipush hX (v := (-101)) dX5_bond_16 (by decide) ?_
      exact wl_ireturn hT dX5_bond_18 (hx_ri (by unfold bondR; rw [if_pos (Or.inr h2)]))

set_option maxHeartbeats 400000 in
theorem c_X5_matched {l : Launch} {D : va_G} {ad : Nat → Nat} {cy : Nat → ClassId} (hi : hx_inj ad) (I : MI) (J : MJ) (x z : Int32) (P : Nat) (hP : I 5 0 = nI P) (hP12 : P ≤ 12) (R : Nat) (hR : I 5 2 = nI R) (hR6 : R ≤ 6) : Ct l D ad cy yX5_matched cX5_matched 3 (some .long) 2 [.ref (ad 5), .int x, .int z] I J (hx_is (some (.long (if inF x (nI R) = 0 then (-101) else if withinF z 0 1 = 0 then (-102) else mOfF (gM I) (bM I) (xN x) z 0 P))) I J) := by
  refine ct_start hi (by decide +kernel) (Nat.le_of_ble_eq_true rfl) (fun X hX hT => ?_)
  show X 0 [(0, .ref (ad 5)), (1, .int x), (2, .int z)] [] I J
  refine wl_aload_n hX 0 rfl dX5_matched_0 ?_
  refine wl_iload_n hX 1 rfl dX5_matched_1 ?_
  refine wl_cVi hX (c_X5_isProject hi I J x R hR hR6) mv_X5_isProject tb_713 (by decide) rfl rfl rfl rfl (by omega) (Nat.le_of_ble_eq_true rfl) dX5_matched_2 ?_
  refine wl_if_ne hX (tgt := 12) dX5_matched_5 (by decide) (fun h1 => ?_) (fun h1 => ?_)
  · have kb : ¬ inF x (nI R) = 0 := h1
    obtain ⟨p, hp, rfl⟩ := inF_of (by omega) h1
    have xp : xN (nI p) = p := xN_nI (by omega)
    refine wl_iload_n hX 2 rfl dX5_matched_12 ?_
    refine wl_iconst hX (v := 0) dX5_matched_13 (by decide) ?_
    refine wl_iconst hX (v := 1) dX5_matched_14 (by decide) ?_
    refine wl_cSi hX (c_X5_in hi I J z 0 1) mv_X5_in tb_580 rfl rfl (by omega) (Nat.le_of_ble_eq_true rfl) dX5_matched_15 ?_
    refine wl_if_eq hX (tgt := 31) dX5_matched_18 (by decide) (fun h3 => ?_) (fun h3 => ?_)
    · refine wl_ldc2 hX tb_739 dX5_matched_31 ?_
      exact wl_lreturn hT dX5_matched_34 (hx_rl (by rw [if_neg kb, if_pos h3]))
    · refine wl_aload_n hX 0 rfl dX5_matched_21 ?_
      refine wl_iload_n hX 1 rfl dX5_matched_22 ?_
      refine wl_iload_n hX 2 rfl dX5_matched_23 ?_
      refine wl_iconst hX (v := 0) dX5_matched_24 (by decide) ?_
      refine wl_cVl hX (c_X5_matchedOf hi I J p z 0 (by omega) P hP hP12) mv_X5_matchedOf tb_727 (by decide) rfl rfl rfl rfl (by omega) (Nat.le_of_ble_eq_true rfl) dX5_matched_25 ?_
      refine wl_goto hX (tgt := 34) dX5_matched_28 (by decide) ?_
      exact wl_lreturn hT dX5_matched_34 (hx_rl (by rw [if_neg kb, if_neg h3, xp]))
  · refine wl_ldc2 hX tb_726 dX5_matched_8 ?_
    exact wl_lreturn hT dX5_matched_11 (hx_rl (by rw [if_pos h1]))

set_option maxHeartbeats 400000 in
theorem c_X5_damped {l : Launch} {D : va_G} {ad : Nat → Nat} {cy : Nat → ClassId} (hi : hx_inj ad) (I : MI) (J : MJ) (x : Int32) (P : Nat) (hP : I 5 0 = nI P) (hP12 : P ≤ 12) (R : Nat) (hR : I 5 2 = nI R) (hR6 : R ≤ 6) : Ct l D ad cy yX5_damped cX5_damped 2 (some .long) 2 [.ref (ad 5), .int x] I J (hx_is (some (.long (dampedR R (fun j => mOfF (gM I) (bM I) j 0 1 P - mOfF (gM I) (bM I) j 0 0 P) x))) I J) := by
  refine ct_start hi (by decide +kernel) (Nat.le_of_ble_eq_true rfl) (fun X hX hT => ?_)
  show X 0 [(0, .ref (ad 5)), (1, .int x)] [] I J
  refine wl_aload_n hX 0 rfl dX5_damped_0 ?_
  refine wl_iload_n hX 1 rfl dX5_damped_1 ?_
  refine wl_cVi hX (c_X5_isProject hi I J x R hR hR6) mv_X5_isProject tb_713 (by decide) rfl rfl rfl rfl (by omega) (Nat.le_of_ble_eq_true rfl) dX5_damped_2 ?_
  refine wl_if_eq hX (tgt := 26) dX5_damped_5 (by decide) (fun h1 => ?_) (fun h1 => ?_)
  · refine wl_ldc2 hX tb_726 dX5_damped_26 ?_
    exact wl_lreturn hT dX5_damped_29 (hx_rl (by unfold dampedR; rw [if_pos h1]))
  · have kb : ¬ inF x (nI R) = 0 := h1
    obtain ⟨p, hp, rfl⟩ := inF_of (by omega) h1
    have xp : xN (nI p) = p := xN_nI (by omega)
    refine wl_aload_n hX 0 rfl dX5_damped_8 ?_
    refine wl_iload_n hX 1 rfl dX5_damped_9 ?_
    refine wl_iconst hX (v := 0) dX5_damped_10 (by decide) ?_
    refine wl_iconst hX (v := 1) dX5_damped_11 (by decide) ?_
    refine wl_cVl hX (c_X5_matchedOf hi I J p 0 1 (by omega) P hP hP12) mv_X5_matchedOf tb_727 (by decide) rfl rfl rfl rfl (by omega) (Nat.le_of_ble_eq_true rfl) dX5_damped_12 ?_
    refine wl_aload_n hX 0 rfl dX5_damped_15 ?_
    refine wl_iload_n hX 1 rfl dX5_damped_16 ?_
    refine wl_iconst hX (v := 0) dX5_damped_17 (by decide) ?_
    refine wl_iconst hX (v := 0) dX5_damped_18 (by decide) ?_
    refine wl_cVl hX (c_X5_matchedOf hi I J p 0 0 (by omega) P hP hP12) mv_X5_matchedOf tb_727 (by decide) rfl rfl rfl rfl (by omega) (Nat.le_of_ble_eq_true rfl) dX5_damped_19 ?_
    refine wl_lsub hX dX5_damped_22 ?_
    refine wl_goto hX (tgt := 29) dX5_damped_23 (by decide) ?_
    exact wl_lreturn hT dX5_damped_29 (hx_rl (by unfold dampedR; rw [if_neg kb, xp]))

set_option maxHeartbeats 400000 in
theorem c_X5_likeness {l : Launch} {D : va_G} {ad : Nat → Nat} {cy : Nat → ClassId} (hi : hx_inj ad) (I : MI) (J : MJ) (x y : Int32) (P : Nat) (hP : I 5 0 = nI P) (hP12 : P ≤ 12) (Q : Nat) (hQ : I 5 1 = nI Q) (hQ6 : Q ≤ 6) : Ct l D ad cy yX5_likeness cX5_likeness 3 (some .int) 2 [.ref (ad 5), .int x, .int y] I J (hx_is (some (.int (twoR P P (-2001) (likeF (vM I) Q) x y))) I J) := by
  refine ct_start hi (by decide +kernel) (Nat.le_of_ble_eq_true rfl) (fun X hX hT => ?_)
  show X 0 [(0, .ref (ad 5)), (1, .int x), (2, .int y)] [] I J
  refine wl_aload_n hX 0 rfl dX5_likeness_0 ?_
  refine wl_iload_n hX 1 rfl dX5_likeness_1 ?_
  refine wl_cVi hX (c_X5_isPerson hi I J x P hP hP12) mv_X5_isPerson tb_599 (by decide) rfl rfl rfl rfl (by omega) (Nat.le_of_ble_eq_true rfl) dX5_likeness_2 ?_
  refine wl_if_eq hX (tgt := 25) dX5_likeness_5 (by decide) (fun h1 => ?_) (fun h1 => ?_)
  · refine wl_sipush hX (v := (-2001)) dX5_likeness_25 (by decide) ?_
    exact wl_ireturn hT dX5_likeness_28 (hx_ri (by unfold twoR; rw [if_pos (Or.inl h1)]))
  · refine wl_aload_n hX 0 rfl dX5_likeness_8 ?_
    refine wl_iload_n hX 2 rfl dX5_likeness_9 ?_
    refine wl_cVi hX (c_X5_isPerson hi I J y P hP hP12) mv_X5_isPerson tb_599 (by decide) rfl rfl rfl rfl (by omega) (Nat.le_of_ble_eq_true rfl) dX5_likeness_10 ?_
    refine wl_if_eq hX (tgt := 25) dX5_likeness_13 (by decide) (fun h2 => ?_) (fun h2 => ?_)
    · refine wl_sipush hX (v := (-2001)) dX5_likeness_25 (by decide) ?_
      exact wl_ireturn hT dX5_likeness_28 (hx_ri (by unfold twoR; rw [if_pos (Or.inr h2)]))
    · have kb : ¬ (inF x (nI P) = 0 ∨ inF y (nI P) = 0) := fun z => z.elim h1 h2
      obtain ⟨p, hp, rfl⟩ := inF_of (by omega) h1
      obtain ⟨q, hq, rfl⟩ := inF_of (by omega) h2
      have xp : xN (nI p) = p := xN_nI (by omega)
      have xq : xN (nI q) = q := xN_nI (by omega)
      refine wl_aload_n hX 0 rfl dX5_likeness_16 ?_
      refine wl_iload_n hX 1 rfl dX5_likeness_17 ?_
      refine wl_iload_n hX 2 rfl dX5_likeness_18 ?_
      refine wl_cVi hX (c_X5_likenessOf hi I J p q (by omega) (by omega) Q hQ hQ6) mv_X5_likenessOf tb_754 (by decide) rfl rfl rfl rfl (by omega) (Nat.le_of_ble_eq_true rfl) dX5_likeness_19 ?_
      refine wl_goto hX (tgt := 28) dX5_likeness_22 (by decide) ?_
      exact wl_ireturn hT dX5_likeness_28 (hx_ri (by unfold twoR; rw [if_neg kb, xp, xq]))

set_option maxHeartbeats 400000 in
theorem c_X5_count {l : Launch} {D : va_G} {ad : Nat → Nat} {cy : Nat → ClassId} (hi : hx_inj ad) (I : MI) (J : MJ) (x : Int32) (P : Nat) (hP : I 5 0 = nI P) (hP12 : P ≤ 12) (Q : Nat) (hQ : I 5 1 = nI Q) (hQ6 : Q ≤ 6) (R : Nat) (hR : I 5 2 = nI R) (hR6 : R ≤ 6) : Ct l D ad cy yX5_count cX5_count 4 (some .int) 0 [.ref (ad 5), .int x] I J (hx_is (some (.int (countR (nI P) (nI Q) (nI R) (presF (I 21) P) (I 5 10) (I 5 11) x))) I J) := by
  refine ct_start hi (by decide +kernel) (Nat.le_of_ble_eq_true rfl) (fun X hX hT => ?_)
  show X 0 [(0, .ref (ad 5)), (1, .int x)] [] I J
  refine wl_iconst hX (v := 0) dX5_count_0 (by decide) ?_
  refine wl_istore_n hX (lv' := [(2, .int 0), (0, .ref (ad 5)), (1, .int x)]) rfl (by decide) dX5_count_1 ?_
  refine wl_iload_n hX 2 rfl dX5_count_2 ?_
  by_cases c0 : x = 0
  · subst c0
    refine wl_tableIn hX (off := 37) (tgt := 40) dX5_count_3 (by decide) (by decide) (by decide) (by decide) ?_
    refine wl_aload_n hX 1 rfl dX5_count_40 ?_
    refine gf_X5_0 hX tb_500 dX5_count_41 ?_
    refine wl_eqi (y := nI P) hP ?_
    exact wl_ireturn hT dX5_count_44 (hx_ri (by unfold countR; simp))
  · by_cases c1 : x = 1
    · subst c1
      refine wl_tableIn hX (off := 42) (tgt := 45) dX5_count_3 (by decide) (by decide) (by decide) (by decide) ?_
      refine wl_aload_n hX 1 rfl dX5_count_45 ?_
      refine gf_X5_1 hX tb_501 dX5_count_46 ?_
      refine wl_eqi (y := nI Q) hQ ?_
      exact wl_ireturn hT dX5_count_49 (hx_ri (by unfold countR; simp))
    · by_cases c2 : x = 2
      · subst c2
        refine wl_tableIn hX (off := 47) (tgt := 50) dX5_count_3 (by decide) (by decide) (by decide) (by decide) ?_
        refine wl_aload_n hX 1 rfl dX5_count_50 ?_
        refine gf_X5_2 hX tb_502 dX5_count_51 ?_
        refine wl_eqi (y := nI R) hR ?_
        exact wl_ireturn hT dX5_count_54 (hx_ri (by unfold countR; simp))
      · by_cases c3 : x = 3
        · subst c3
          refine wl_tableIn hX (off := 52) (tgt := 55) dX5_count_3 (by decide) (by decide) (by decide) (by decide) ?_
          refine wl_iconst hX (v := 0) dX5_count_55 (by decide) ?_
          refine wl_istore_n hX (lv' := [(3, .int 0), (2, .int 0), (0, .ref (ad 5)), (1, .int 3)]) rfl (by decide) dX5_count_56 ?_
          refine wl_sub hX [2, 3, 1, 0] rfl ?_
          have L : ∀ (k p : Nat), p ≤ P → P - p < k → X 57 [(0, .ref (ad 5)), (1, .int 3), (2, .int (presF (I 21) p)), (3, .int (nI p))] [] I J := by
            intro k
            induction k with
            | zero => exact fun _  _ h => absurd h (Nat.not_lt_zero _)
            | succ k ihL =>
              intro p  hpn hpk
              refine wl_iload_n hX 3 rfl dX5_count_57 ?_
              refine wl_aload_n hX 0 rfl dX5_count_58 ?_
              refine gf_X5_0 hX tb_500 dX5_count_59 ?_
              refine wl_eqi (y := nI P) hP ?_
              refine wl_icmp_ge hX (tgt := 88) dX5_count_62 (by decide) (fun hpc => ?_) (fun hpc => ?_)
              · have hpe : p = P := by
                  have h9 := (nI_leI (by omega) (by omega)).mp hpc
                  omega
                refine wl_iload_n hX 2 rfl dX5_count_88 ?_
                exact wl_ireturn hT dX5_count_89 (hx_ri (by rw [hpe]; unfold countR; simp))
              · have hp1 : p < P := Nat.lt_of_not_le (fun z => hpc ((nI_leI (by omega) (by omega)).mpr z))
                refine wl_iload_n hX 2 rfl dX5_count_65 ?_
                refine wl_aload_n hX 0 rfl dX5_count_66 ?_
                refine gf_X5_5 hX tb_505 dX5_count_67 ?_
                refine wl_iload_n hX 3 rfl dX5_count_70 ?_
                refine wl_zald hX p kc_21 rfl (by omega) dX5_count_71 ?_
                have e2 : presF (I 21) (p + 1) = presF (I 21) p + (if I 21 p = 0 then (0 : Int32) else 1) := rfl
                refine wl_if_eq hX (tgt := 79) dX5_count_72 (by decide) (fun h2 => ?_) (fun h2 => ?_)
                · rw [if_pos h2] at e2
                  refine wl_iconst hX (v := 0) dX5_count_79 (by decide) ?_
                  refine wl_iadd hX dX5_count_80 ?_
                  refine wl_eqi (y := presF (I 21) (p + 1)) e2.symm ?_
                  refine wl_istore_n hX (lv' := [(2, .int (presF (I 21) (p + 1))), (0, .ref (ad 5)), (1, .int 3), (3, .int (nI p))]) rfl (by decide) dX5_count_81 ?_
                  refine wl_iinc hX (v := nI (p + 1)) (lv' := [(3, .int (nI (p + 1))), (2, .int (presF (I 21) (p + 1))), (0, .ref (ad 5)), (1, .int 3)]) 3 rfl (nI_1 _) rfl (by decide) dX5_count_82 ?_
                  refine wl_goto hX (tgt := 57) dX5_count_85 (by decide) ?_
                  refine wl_sub hX [2, 3, 1, 0] rfl ?_
                  exact ihL (p + 1) (by omega) (by omega)
                · rw [if_neg h2] at e2
                  refine wl_iconst hX (v := 1) dX5_count_75 (by decide) ?_
                  refine wl_goto hX (tgt := 80) dX5_count_76 (by decide) ?_
                  refine wl_iadd hX dX5_count_80 ?_
                  refine wl_eqi (y := presF (I 21) (p + 1)) e2.symm ?_
                  refine wl_istore_n hX (lv' := [(2, .int (presF (I 21) (p + 1))), (0, .ref (ad 5)), (1, .int 3), (3, .int (nI p))]) rfl (by decide) dX5_count_81 ?_
                  refine wl_iinc hX (v := nI (p + 1)) (lv' := [(3, .int (nI (p + 1))), (2, .int (presF (I 21) (p + 1))), (0, .ref (ad 5)), (1, .int 3)]) 3 rfl (nI_1 _) rfl (by decide) dX5_count_82 ?_
                  refine wl_goto hX (tgt := 57) dX5_count_85 (by decide) ?_
                  refine wl_sub hX [2, 3, 1, 0] rfl ?_
                  exact ihL (p + 1) (by omega) (by omega)
          exact L (P + 1) 0 (by omega) (by omega)
        · by_cases c4 : x = 4
          · subst c4
            refine wl_tableIn hX (off := 87) (tgt := 90) dX5_count_3 (by decide) (by decide) (by decide) (by decide) ?_
            refine wl_aload_n hX 1 rfl dX5_count_90 ?_
            refine gf_X5_10 hX tb_510 dX5_count_91 ?_
            exact wl_ireturn hT dX5_count_94 (hx_ri (by unfold countR; simp))
          · by_cases c5 : x = 5
            · subst c5
              refine wl_tableIn hX (off := 92) (tgt := 95) dX5_count_3 (by decide) (by decide) (by decide) (by decide) ?_
              refine wl_aload_n hX 1 rfl dX5_count_95 ?_
              refine gf_X5_11 hX tb_511 dX5_count_96 ?_
              exact wl_ireturn hT dX5_count_99 (hx_ri (by unfold countR; simp))
            · refine wl_tableOut hX (tgt := 100) dX5_count_3 (hx_far c0 c1 c2 c3 c4 c5) (by decide) ?_
              refine wl_bipush hX (v := (-102)) dX5_count_100 (by decide) ?_
              exact wl_ireturn hT dX5_count_102 (hx_ri (by unfold countR; rw [if_neg c0, if_neg c1, if_neg c2, if_neg c3, if_neg c4, if_neg c5]))

set_option maxHeartbeats 400000 in
theorem c_X5_mixz {l : Launch} {D : va_G} {ad : Nat → Nat} {cy : Nat → ClassId} (hi : hx_inj ad) (I : MI) (J : MJ) (z v : Int64) : Ct l D ad cy yX5_mix cX5_mix 3 none 0 [.ref (ad 5), .long v] I (hx_uJ J 5 24 z) (hx_is none I (hx_uJ J 5 24 (31 * z + v))) := by
  refine ct_start hi (by decide +kernel) (Nat.le_of_ble_eq_true rfl) (fun X hX hT => ?_)
  show X 0 [(0, .ref (ad 5)), (1, .long v)] [] I (hx_uJ J 5 24 z)
  refine wl_aload_n hX 0 rfl dX5_mix_0 ?_
  refine wl_ldc2 hX tb_775 dX5_mix_1 ?_
  refine wl_aload_n hX 0 rfl dX5_mix_4 ?_
  refine gf_X5_24 hX tb_524 dX5_mix_5 ?_
  refine wl_eql (y := z) rfl ?_
  refine wl_lmul hX dX5_mix_8 ?_
  refine wl_lload_n hX 1 rfl dX5_mix_9 ?_
  refine wl_ladd hX dX5_mix_10 ?_
  refine pf_X5_24 hX tb_524 dX5_mix_11 ?_
  exact wl_return hT dX5_mix_14 ⟨rfl, rfl, hx_uJ2 J 5 24 z (31 * z + v)⟩

set_option maxHeartbeats 400000 in
theorem c_X5_digest {l : Launch} {D : va_G} {ad : Nat → Nat} {cy : Nat → ClassId} (hi : hx_inj ad) (I : MI) (J : MJ) (P : Nat) (hP : I 5 0 = nI P) (hP12 : P ≤ 12) (Q : Nat) (hQ : I 5 1 = nI Q) (hQ6 : Q ≤ 6) (R : Nat) (hR : I 5 2 = nI R) (hR6 : R ≤ 6) : Ct l D ad cy yX5_digest cX5_digest 3 (some .long) 1 [.ref (ad 5)] I J (hx_is (some (.long (digestR (fun p z => dgFF (gM I p) (bM I p) R p (dgHF (I 20 p) (I 21 p) (vM I p) (wM I p) Q z)) P (I 5 3) (I 5 10) (I 5 11)))) I (hx_uJ J 5 24 (digestR (fun p z => dgFF (gM I p) (bM I p) R p (dgHF (I 20 p) (I 21 p) (vM I p) (wM I p) Q z)) P (I 5 3) (I 5 10) (I 5 11)))) := by
  refine ct_start hi (by decide +kernel) (Nat.le_of_ble_eq_true rfl) (fun X hX hT => ?_)
  show X 0 [(0, .ref (ad 5))] [] I J
  refine wl_aload_n hX 0 rfl dX5_digest_0 ?_
  refine wl_ldc2 hX tb_770 dX5_digest_1 ?_
  refine pf_X5_24 hX tb_524 dX5_digest_4 ?_
  refine wl_iconst hX (v := 0) dX5_digest_7 (by decide) ?_
  refine wl_istore_n hX (lv' := [(1, .int 0), (0, .ref (ad 5))]) rfl (by decide) dX5_digest_8 ?_
  refine wl_sub hX [1, 0] rfl ?_
  have L : ∀ (k p : Nat), p ≤ P → P - p < k → X 9 [(0, .ref (ad 5)), (1, .int (nI p))] [] I (hx_uJ J 5 24 (dgF (fun p z => dgFF (gM I p) (bM I p) R p (dgHF (I 20 p) (I 21 p) (vM I p) (wM I p) Q z)) p 103)) := by
    intro k
    induction k with
    | zero => exact fun _  _ h => absurd h (Nat.not_lt_zero _)
    | succ k ihL =>
      intro p  hpn hpk
      refine wl_iload_n hX 1 rfl dX5_digest_9 ?_
      refine wl_aload_n hX 0 rfl dX5_digest_10 ?_
      refine gf_X5_0 hX tb_500 dX5_digest_11 ?_
      refine wl_eqi (y := nI P) hP ?_
      refine wl_icmp_ge hX (tgt := 177) dX5_digest_14 (by decide) (fun hpc => ?_) (fun hpc => ?_)
      · have hpe : p = P := by
          have h9 := (nI_leI (by omega) (by omega)).mp hpc
          omega
        rw [hpe]
        refine wl_aload_n hX 0 rfl dX5_digest_177 ?_
        refine wl_aload_n hX 0 rfl dX5_digest_178 ?_
        refine gf_X5_3 hX tb_503 dX5_digest_179 ?_
        refine wl_i2l hX (v := (I 5 3).toInt64) dX5_digest_182 rfl ?_
        refine wl_cVv hX (c_X5_mixz hi I J (dgF (fun p z => dgFF (gM I p) (bM I p) R p (dgHF (I 20 p) (I 21 p) (vM I p) (wM I p) Q z)) P 103) ((I 5 3).toInt64)) mv_X5_mix tb_771 (by decide) rfl rfl rfl rfl (by omega) (Nat.le_of_ble_eq_true rfl) dX5_digest_183 ?_
        refine wl_aload_n hX 0 rfl dX5_digest_186 ?_
        refine wl_aload_n hX 0 rfl dX5_digest_187 ?_
        refine gf_X5_10 hX tb_510 dX5_digest_188 ?_
        refine wl_i2l hX (v := (I 5 10).toInt64) dX5_digest_191 rfl ?_
        refine wl_cVv hX (c_X5_mixz hi I J (31 * (dgF (fun p z => dgFF (gM I p) (bM I p) R p (dgHF (I 20 p) (I 21 p) (vM I p) (wM I p) Q z)) P 103) + (I 5 3).toInt64) ((I 5 10).toInt64)) mv_X5_mix tb_771 (by decide) rfl rfl rfl rfl (by omega) (Nat.le_of_ble_eq_true rfl) dX5_digest_192 ?_
        refine wl_aload_n hX 0 rfl dX5_digest_195 ?_
        refine wl_aload_n hX 0 rfl dX5_digest_196 ?_
        refine gf_X5_11 hX tb_511 dX5_digest_197 ?_
        refine wl_i2l hX (v := (I 5 11).toInt64) dX5_digest_200 rfl ?_
        refine wl_cVv hX (c_X5_mixz hi I J (31 * (31 * (dgF (fun p z => dgFF (gM I p) (bM I p) R p (dgHF (I 20 p) (I 21 p) (vM I p) (wM I p) Q z)) P 103) + (I 5 3).toInt64) + (I 5 10).toInt64) ((I 5 11).toInt64)) mv_X5_mix tb_771 (by decide) rfl rfl rfl rfl (by omega) (Nat.le_of_ble_eq_true rfl) dX5_digest_201 ?_
        have e8 : digestR (fun p z => dgFF (gM I p) (bM I p) R p (dgHF (I 20 p) (I 21 p) (vM I p) (wM I p) Q z)) P (I 5 3) (I 5 10) (I 5 11) = 31 * (31 * (31 * (dgF (fun p z => dgFF (gM I p) (bM I p) R p (dgHF (I 20 p) (I 21 p) (vM I p) (wM I p) Q z)) P 103) + (I 5 3).toInt64) + (I 5 10).toInt64) + (I 5 11).toInt64 := by unfold digestR; rfl
        rw [e8] at hT
        refine wl_aload_n hX 0 rfl dX5_digest_204 ?_
        refine gf_X5_24 hX tb_524 dX5_digest_205 ?_
        refine wl_eql (y := 31 * (31 * (31 * (dgF (fun p z => dgFF (gM I p) (bM I p) R p (dgHF (I 20 p) (I 21 p) (vM I p) (wM I p) Q z)) P 103) + (I 5 3).toInt64) + (I 5 10).toInt64) + (I 5 11).toInt64) rfl ?_
        exact wl_lreturn hT dX5_digest_208 ⟨rfl, rfl, rfl⟩
      · have hp1 : p < P := Nat.lt_of_not_le (fun z => hpc ((nI_leI (by omega) (by omega)).mpr z))
        refine wl_aload_n hX 0 rfl dX5_digest_17 ?_
        refine wl_aload_n hX 0 rfl dX5_digest_18 ?_
        refine gf_X5_4 hX tb_504 dX5_digest_19 ?_
        refine wl_iload_n hX 1 rfl dX5_digest_22 ?_
        refine wl_iald hX p kc_20 rfl (by omega) dX5_digest_23 ?_
        refine wl_i2l hX (v := (I 20 p).toInt64) dX5_digest_24 rfl ?_
        refine wl_cVv hX (c_X5_mixz hi I J (dgF (fun p z => dgFF (gM I p) (bM I p) R p (dgHF (I 20 p) (I 21 p) (vM I p) (wM I p) Q z)) p 103) ((I 20 p).toInt64)) mv_X5_mix tb_771 (by decide) rfl rfl rfl rfl (by omega) (Nat.le_of_ble_eq_true rfl) dX5_digest_25 ?_
        refine wl_aload_n hX 0 rfl dX5_digest_28 ?_
        refine wl_aload_n hX 0 rfl dX5_digest_29 ?_
        refine gf_X5_5 hX tb_505 dX5_digest_30 ?_
        refine wl_iload_n hX 1 rfl dX5_digest_33 ?_
        refine wl_zald hX p kc_21 rfl (by omega) dX5_digest_34 ?_
        have K : X 43 [(0, .ref (ad 5)), (1, .int (nI p))] [.long ((onF (I 21 p)).toInt64), .ref (ad 5)] I (hx_uJ J 5 24 (31 * (dgF (fun p z => dgFF (gM I p) (bM I p) R p (dgHF (I 20 p) (I 21 p) (vM I p) (wM I p) Q z)) p 103) + (I 20 p).toInt64)) := by
          refine wl_cVv hX (c_X5_mixz hi I J (31 * (dgF (fun p z => dgFF (gM I p) (bM I p) R p (dgHF (I 20 p) (I 21 p) (vM I p) (wM I p) Q z)) p 103) + (I 20 p).toInt64) ((onF (I 21 p)).toInt64)) mv_X5_mix tb_771 (by decide) rfl rfl rfl rfl (by omega) (Nat.le_of_ble_eq_true rfl) dX5_digest_43 ?_
          refine wl_iconst hX (v := 0) dX5_digest_46 (by decide) ?_
          refine wl_istore_n hX (lv' := [(2, .int 0), (0, .ref (ad 5)), (1, .int (nI p))]) rfl (by decide) dX5_digest_47 ?_
          refine wl_sub hX [1, 2, 0] rfl ?_
          have A1 : ∀ (k q : Nat), q ≤ Q → Q - q < k → X 48 [(0, .ref (ad 5)), (1, .int (nI p)), (2, .int (nI q))] [] I (hx_uJ J 5 24 (chF (vM I p) q (31 * (31 * (dgF (fun p z => dgFF (gM I p) (bM I p) R p (dgHF (I 20 p) (I 21 p) (vM I p) (wM I p) Q z)) p 103) + (I 20 p).toInt64) + (onF (I 21 p)).toInt64))) := by
            intro k
            induction k with
            | zero => exact fun _  _ h => absurd h (Nat.not_lt_zero _)
            | succ k ihA1 =>
              intro q  hqn hqk
              refine wl_iload_n hX 2 rfl dX5_digest_48 ?_
              refine wl_aload_n hX 0 rfl dX5_digest_49 ?_
              refine gf_X5_1 hX tb_501 dX5_digest_50 ?_
              refine wl_eqi (y := nI Q) hQ ?_
              refine wl_icmp_ge hX (tgt := 78) dX5_digest_53 (by decide) (fun hqc => ?_) (fun hqc => ?_)
              · have hqe : q = Q := by
                  have h9 := (nI_leI (by omega) (by omega)).mp hqc
                  omega
                rw [hqe]
                refine wl_iconst hX (v := 0) dX5_digest_78 (by decide) ?_
                refine wl_istore_n hX (lv' := [(2, .int 0), (0, .ref (ad 5)), (1, .int (nI p))]) rfl (by decide) dX5_digest_79 ?_
                refine wl_sub hX [1, 2, 0] rfl ?_
                have A2 : ∀ (k q : Nat), q ≤ Q → Q - q < k → X 80 [(0, .ref (ad 5)), (1, .int (nI p)), (2, .int (nI q))] [] I (hx_uJ J 5 24 (chF (wM I p) q (chF (vM I p) Q (31 * (31 * (dgF (fun p z => dgFF (gM I p) (bM I p) R p (dgHF (I 20 p) (I 21 p) (vM I p) (wM I p) Q z)) p 103) + (I 20 p).toInt64) + (onF (I 21 p)).toInt64)))) := by
                  intro k
                  induction k with
                  | zero => exact fun _  _ h => absurd h (Nat.not_lt_zero _)
                  | succ k ihA2 =>
                    intro q  hqn hqk
                    refine wl_iload_n hX 2 rfl dX5_digest_80 ?_
                    refine wl_aload_n hX 0 rfl dX5_digest_81 ?_
                    refine gf_X5_1 hX tb_501 dX5_digest_82 ?_
                    refine wl_eqi (y := nI Q) hQ ?_
                    refine wl_icmp_ge hX (tgt := 110) dX5_digest_85 (by decide) (fun hqc => ?_) (fun hqc => ?_)
                    · have hqe : q = Q := by
                        have h9 := (nI_leI (by omega) (by omega)).mp hqc
                        omega
                      rw [hqe]
                      refine wl_iconst hX (v := 0) dX5_digest_110 (by decide) ?_
                      refine wl_istore_n hX (lv' := [(2, .int 0), (0, .ref (ad 5)), (1, .int (nI p))]) rfl (by decide) dX5_digest_111 ?_
                      refine wl_sub hX [1, 2, 0] rfl ?_
                      have A3 : ∀ (k j : Nat), j ≤ R → R - j < k → X 112 [(0, .ref (ad 5)), (1, .int (nI p)), (2, .int (nI j))] [] I (hx_uJ J 5 24 (chF (gM I p) j (chF (wM I p) Q (chF (vM I p) Q (31 * (31 * (dgF (fun p z => dgFF (gM I p) (bM I p) R p (dgHF (I 20 p) (I 21 p) (vM I p) (wM I p) Q z)) p 103) + (I 20 p).toInt64) + (onF (I 21 p)).toInt64))))) := by
                        intro k
                        induction k with
                        | zero => exact fun _  _ h => absurd h (Nat.not_lt_zero _)
                        | succ k ihA3 =>
                          intro j  hjn hjk
                          refine wl_iload_n hX 2 rfl dX5_digest_112 ?_
                          refine wl_aload_n hX 0 rfl dX5_digest_113 ?_
                          refine gf_X5_2 hX tb_502 dX5_digest_114 ?_
                          refine wl_eqi (y := nI R) hR ?_
                          refine wl_icmp_ge hX (tgt := 142) dX5_digest_117 (by decide) (fun hjc => ?_) (fun hjc => ?_)
                          · have hje : j = R := by
                              have h9 := (nI_leI (by omega) (by omega)).mp hjc
                              omega
                            rw [hje]
                            refine wl_iconst hX (v := 0) dX5_digest_142 (by decide) ?_
                            refine wl_istore_n hX (lv' := [(2, .int 0), (0, .ref (ad 5)), (1, .int (nI p))]) rfl (by decide) dX5_digest_143 ?_
                            refine wl_sub hX [1, 2, 0] rfl ?_
                            have A4 : ∀ (k r : Nat), r ≤ p → p - r < k → X 144 [(0, .ref (ad 5)), (1, .int (nI p)), (2, .int (nI r))] [] I (hx_uJ J 5 24 (chF (bM I p) r (chF (gM I p) R (chF (wM I p) Q (chF (vM I p) Q (31 * (31 * (dgF (fun p z => dgFF (gM I p) (bM I p) R p (dgHF (I 20 p) (I 21 p) (vM I p) (wM I p) Q z)) p 103) + (I 20 p).toInt64) + (onF (I 21 p)).toInt64)))))) := by
                              intro k
                              induction k with
                              | zero => exact fun _  _ h => absurd h (Nat.not_lt_zero _)
                              | succ k ihA4 =>
                                intro r  hrn hrk
                                refine wl_iload_n hX 2 rfl dX5_digest_144 ?_
                                refine wl_iload_n hX 1 rfl dX5_digest_145 ?_
                                refine wl_icmp_ge hX (tgt := 171) dX5_digest_146 (by decide) (fun hrc => ?_) (fun hrc => ?_)
                                · have hre : r = p := by
                                    have h9 := (nI_leI (by omega) (by omega)).mp hrc
                                    omega
                                  rw [hre]
                                  refine wl_iinc hX (v := nI (p + 1)) (lv' := [(1, .int (nI (p + 1))), (0, .ref (ad 5)), (2, .int (nI p))]) 1 rfl (nI_1 _) rfl (by decide) dX5_digest_171 ?_
                                  refine wl_goto hX (tgt := 9) dX5_digest_174 (by decide) ?_
                                  refine wl_sub hX [1, 0] rfl ?_
                                  have e9 : dgF (fun p z => dgFF (gM I p) (bM I p) R p (dgHF (I 20 p) (I 21 p) (vM I p) (wM I p) Q z)) (p + 1) 103 = chF (bM I p) p (chF (gM I p) R (chF (wM I p) Q (chF (vM I p) Q (31 * (31 * (dgF (fun p z => dgFF (gM I p) (bM I p) R p (dgHF (I 20 p) (I 21 p) (vM I p) (wM I p) Q z)) p 103) + (I 20 p).toInt64) + (onF (I 21 p)).toInt64)))) := by
                                    show dgFF (gM I p) (bM I p) R p (dgHF (I 20 p) (I 21 p) (vM I p) (wM I p) Q (dgF (fun p z => dgFF (gM I p) (bM I p) R p (dgHF (I 20 p) (I 21 p) (vM I p) (wM I p) Q z)) p 103)) = _
                                    unfold dgFF dgHF
                                    rfl
                                  have ih2 := ihL (p + 1) (by omega) (by omega)
                                  rw [e9] at ih2
                                  exact ih2
                                · have hr1 : r < p := Nat.lt_of_not_le (fun z => hrc ((nI_leI (by omega) (by omega)).mpr z))
                                  refine wl_aload_n hX 0 rfl dX5_digest_149 ?_
                                  refine wl_aload_n hX 0 rfl dX5_digest_150 ?_
                                  refine gf_X5_9 hX tb_509 dX5_digest_151 ?_
                                  refine wl_bipush hX (v := 12) dX5_digest_154 (by decide) ?_
                                  refine wl_iload_n hX 1 rfl dX5_digest_156 ?_
                                  refine wl_imul hX dX5_digest_157 ?_
                                  refine wl_iload_n hX 2 rfl dX5_digest_158 ?_
                                  refine wl_iadd hX dX5_digest_159 ?_
                                  refine wl_iald hX (12 * p + r) kc_25 (hx_ix12 p r) (by omega) dX5_digest_160 ?_
                                  refine wl_i2l hX (v := (I 25 (12 * p + r)).toInt64) dX5_digest_161 rfl ?_
                                  refine wl_cVv hX (c_X5_mixz hi I J (chF (bM I p) r (chF (gM I p) R (chF (wM I p) Q (chF (vM I p) Q (31 * (31 * (dgF (fun p z => dgFF (gM I p) (bM I p) R p (dgHF (I 20 p) (I 21 p) (vM I p) (wM I p) Q z)) p 103) + (I 20 p).toInt64) + (onF (I 21 p)).toInt64))))) ((I 25 (12 * p + r)).toInt64)) mv_X5_mix tb_771 (by decide) rfl rfl rfl rfl (by omega) (Nat.le_of_ble_eq_true rfl) dX5_digest_162 ?_
                                  refine wl_iinc hX (v := nI (r + 1)) (lv' := [(2, .int (nI (r + 1))), (0, .ref (ad 5)), (1, .int (nI p))]) 2 rfl (nI_1 _) rfl (by decide) dX5_digest_165 ?_
                                  refine wl_goto hX (tgt := 144) dX5_digest_168 (by decide) ?_
                                  refine wl_sub hX [1, 2, 0] rfl ?_
                                  exact ihA4 (r + 1) (by omega) (by omega)
                            have a0 := A4 (p + 1) 0 (by omega) (by omega)
                            rw [chF_0] at a0
                            exact a0
                          · have hj1 : j < R := Nat.lt_of_not_le (fun z => hjc ((nI_leI (by omega) (by omega)).mpr z))
                            refine wl_aload_n hX 0 rfl dX5_digest_120 ?_
                            refine wl_aload_n hX 0 rfl dX5_digest_121 ?_
                            refine gf_X5_8 hX tb_508 dX5_digest_122 ?_
                            refine wl_bipush hX (v := 6) dX5_digest_125 (by decide) ?_
                            refine wl_iload_n hX 1 rfl dX5_digest_127 ?_
                            refine wl_imul hX dX5_digest_128 ?_
                            refine wl_iload_n hX 2 rfl dX5_digest_129 ?_
                            refine wl_iadd hX dX5_digest_130 ?_
                            refine wl_iald hX (6 * p + j) kc_24 (hx_ix6 p j) (by omega) dX5_digest_131 ?_
                            refine wl_i2l hX (v := (I 24 (6 * p + j)).toInt64) dX5_digest_132 rfl ?_
                            refine wl_cVv hX (c_X5_mixz hi I J (chF (gM I p) j (chF (wM I p) Q (chF (vM I p) Q (31 * (31 * (dgF (fun p z => dgFF (gM I p) (bM I p) R p (dgHF (I 20 p) (I 21 p) (vM I p) (wM I p) Q z)) p 103) + (I 20 p).toInt64) + (onF (I 21 p)).toInt64)))) ((I 24 (6 * p + j)).toInt64)) mv_X5_mix tb_771 (by decide) rfl rfl rfl rfl (by omega) (Nat.le_of_ble_eq_true rfl) dX5_digest_133 ?_
                            refine wl_iinc hX (v := nI (j + 1)) (lv' := [(2, .int (nI (j + 1))), (0, .ref (ad 5)), (1, .int (nI p))]) 2 rfl (nI_1 _) rfl (by decide) dX5_digest_136 ?_
                            refine wl_goto hX (tgt := 112) dX5_digest_139 (by decide) ?_
                            refine wl_sub hX [1, 2, 0] rfl ?_
                            exact ihA3 (j + 1) (by omega) (by omega)
                      have a0 := A3 (R + 1) 0 (by omega) (by omega)
                      rw [chF_0] at a0
                      exact a0
                    · have hq1 : q < Q := Nat.lt_of_not_le (fun z => hqc ((nI_leI (by omega) (by omega)).mpr z))
                      refine wl_aload_n hX 0 rfl dX5_digest_88 ?_
                      refine wl_aload_n hX 0 rfl dX5_digest_89 ?_
                      refine gf_X5_7 hX tb_507 dX5_digest_90 ?_
                      refine wl_bipush hX (v := 6) dX5_digest_93 (by decide) ?_
                      refine wl_iload_n hX 1 rfl dX5_digest_95 ?_
                      refine wl_imul hX dX5_digest_96 ?_
                      refine wl_iload_n hX 2 rfl dX5_digest_97 ?_
                      refine wl_iadd hX dX5_digest_98 ?_
                      refine wl_iald hX (6 * p + q) kc_23 (hx_ix6 p q) (by omega) dX5_digest_99 ?_
                      refine wl_i2l hX (v := (I 23 (6 * p + q)).toInt64) dX5_digest_100 rfl ?_
                      refine wl_cVv hX (c_X5_mixz hi I J (chF (wM I p) q (chF (vM I p) Q (31 * (31 * (dgF (fun p z => dgFF (gM I p) (bM I p) R p (dgHF (I 20 p) (I 21 p) (vM I p) (wM I p) Q z)) p 103) + (I 20 p).toInt64) + (onF (I 21 p)).toInt64))) ((I 23 (6 * p + q)).toInt64)) mv_X5_mix tb_771 (by decide) rfl rfl rfl rfl (by omega) (Nat.le_of_ble_eq_true rfl) dX5_digest_101 ?_
                      refine wl_iinc hX (v := nI (q + 1)) (lv' := [(2, .int (nI (q + 1))), (0, .ref (ad 5)), (1, .int (nI p))]) 2 rfl (nI_1 _) rfl (by decide) dX5_digest_104 ?_
                      refine wl_goto hX (tgt := 80) dX5_digest_107 (by decide) ?_
                      refine wl_sub hX [1, 2, 0] rfl ?_
                      exact ihA2 (q + 1) (by omega) (by omega)
                have a0 := A2 (Q + 1) 0 (by omega) (by omega)
                rw [chF_0] at a0
                exact a0
              · have hq1 : q < Q := Nat.lt_of_not_le (fun z => hqc ((nI_leI (by omega) (by omega)).mpr z))
                refine wl_aload_n hX 0 rfl dX5_digest_56 ?_
                refine wl_aload_n hX 0 rfl dX5_digest_57 ?_
                refine gf_X5_6 hX tb_506 dX5_digest_58 ?_
                refine wl_bipush hX (v := 6) dX5_digest_61 (by decide) ?_
                refine wl_iload_n hX 1 rfl dX5_digest_63 ?_
                refine wl_imul hX dX5_digest_64 ?_
                refine wl_iload_n hX 2 rfl dX5_digest_65 ?_
                refine wl_iadd hX dX5_digest_66 ?_
                refine wl_iald hX (6 * p + q) kc_22 (hx_ix6 p q) (by omega) dX5_digest_67 ?_
                refine wl_i2l hX (v := (I 22 (6 * p + q)).toInt64) dX5_digest_68 rfl ?_
                refine wl_cVv hX (c_X5_mixz hi I J (chF (vM I p) q (31 * (31 * (dgF (fun p z => dgFF (gM I p) (bM I p) R p (dgHF (I 20 p) (I 21 p) (vM I p) (wM I p) Q z)) p 103) + (I 20 p).toInt64) + (onF (I 21 p)).toInt64)) ((I 22 (6 * p + q)).toInt64)) mv_X5_mix tb_771 (by decide) rfl rfl rfl rfl (by omega) (Nat.le_of_ble_eq_true rfl) dX5_digest_69 ?_
                refine wl_iinc hX (v := nI (q + 1)) (lv' := [(2, .int (nI (q + 1))), (0, .ref (ad 5)), (1, .int (nI p))]) 2 rfl (nI_1 _) rfl (by decide) dX5_digest_72 ?_
                refine wl_goto hX (tgt := 48) dX5_digest_75 (by decide) ?_
                refine wl_sub hX [1, 2, 0] rfl ?_
                exact ihA1 (q + 1) (by omega) (by omega)
          have a0 := A1 (Q + 1) 0 (by omega) (by omega)
          rw [chF_0] at a0
          exact a0
        refine wl_if_eq hX (tgt := 42) dX5_digest_35 (by decide) (fun h2 => ?_) (fun h2 => ?_)
        · refine wl_lconst hX (v := 0) dX5_digest_42 (by decide) ?_
          refine wl_eql (y := (onF (I 21 p)).toInt64) (by unfold onF; rw [if_pos h2]; decide) ?_
          exact K
        · refine wl_lconst hX (v := 1) dX5_digest_38 (by decide) ?_
          refine wl_goto hX (tgt := 43) dX5_digest_39 (by decide) ?_
          refine wl_eql (y := (onF (I 21 p)).toInt64) (by unfold onF; rw [if_neg h2]; decide) ?_
          exact K
  exact L (P + 1) 0 (by omega) (by omega)

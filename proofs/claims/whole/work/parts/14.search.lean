/-! the search: its methods' contracts -/
set_option maxHeartbeats 400000 in
theorem c_X3_triedIsLess {l : Launch} {D : va_G} {ad : Nat → Nat} {cy : Nat → ClassId} (hi : hx_inj ad) (I : MI) (J : MJ) (s : SS) (Q : Nat) (hQ : I 1 1 = nI Q) (hQ6 : Q ≤ 6) : Ct l D ad cy yX3_triedIsLess cX3_triedIsLess 2 (some .boolean) 0 [.ref (ad 2)] (smM I s) J (hx_is (some (.int (lxF s.1 s.2.1 Q 0))) (smM I s) J) := by
  refine ct_start hi (by decide +kernel) (Nat.le_of_ble_eq_true rfl) (fun X hX hT => ?_)
  show X 0 [(0, .ref (ad 2))] [] (smM I s) J
  obtain ⟨res, hres⟩ : ∃ z : Int32, z = lxF s.1 s.2.1 Q 0 := ⟨_, rfl⟩
  rw [← hres] at hT
  have L : ∀ (m q : Nat), q + m = Q → lxF s.1 s.2.1 m q = res → X 2 [(0, .ref (ad 2)), (1, .int (nI q))] [] (smM I s) J := by
    intro m
    induction m with
    | zero =>
      intro q hq hg
      refine wl_iload_n hX 1 rfl dX3_triedIsLess_2 ?_
      refine wl_aload_n hX 0 rfl dX3_triedIsLess_3 ?_
      refine gf_X3_0 hX tb_94 dX3_triedIsLess_4 ?_
      refine gf_X1_1 hX tb_53 dX3_triedIsLess_7 ?_
      refine wl_eqi (y := nI Q) hQ ?_
      refine wl_icmp_ge hX (tgt := 55) dX3_triedIsLess_10 (by decide) (fun h9 => ?_) (fun h9 => absurd ((nI_leI (by omega) (by omega)).mpr (by omega)) h9)
      refine wl_iconst hX (v := 0) dX3_triedIsLess_55 (by decide) ?_
      exact wl_zreturn hT dX3_triedIsLess_56 (by decide) (hx_ri hg)
    | succ m ih =>
      intro q hq hg
      have hg2 : (if s.1 q = s.2.1 q then lxF s.1 s.2.1 m (q + 1) else if s.1 q < s.2.1 q then (1 : Int32) else 0) = res := hg
      refine wl_iload_n hX 1 rfl dX3_triedIsLess_2 ?_
      refine wl_aload_n hX 0 rfl dX3_triedIsLess_3 ?_
      refine gf_X3_0 hX tb_94 dX3_triedIsLess_4 ?_
      refine gf_X1_1 hX tb_53 dX3_triedIsLess_7 ?_
      refine wl_eqi (y := nI Q) hQ ?_
      refine wl_icmp_ge hX (tgt := 55) dX3_triedIsLess_10 (by decide) (fun h9 => absurd h9 (fun z => absurd ((nI_leI (by omega) (by omega)).mp z) (by omega))) (fun h9 => ?_)
      refine wl_aload_n hX 0 rfl dX3_triedIsLess_13 ?_
      refine gf_X3_5 hX tb_99 dX3_triedIsLess_14 ?_
      refine wl_iload_n hX 1 rfl dX3_triedIsLess_17 ?_
      refine wl_iald hX q kc_14 rfl (by omega) dX3_triedIsLess_18 ?_
      refine wl_eqi (y := s.1 q) rfl ?_
      refine wl_aload_n hX 0 rfl dX3_triedIsLess_19 ?_
      refine gf_X3_6 hX tb_100 dX3_triedIsLess_20 ?_
      refine wl_iload_n hX 1 rfl dX3_triedIsLess_23 ?_
      refine wl_iald hX q kc_15 rfl (by omega) dX3_triedIsLess_24 ?_
      refine wl_eqi (y := s.2.1 q) rfl ?_
      refine wl_icmp_eq hX (tgt := 49) dX3_triedIsLess_25 (by decide) (fun h1 => ?_) (fun h1 => ?_)
      · rw [if_pos h1] at hg2
        refine wl_iinc hX (v := nI (q + 1)) (lv' := [(1, .int (nI (q + 1))), (0, .ref (ad 2))]) 1 rfl (nI_1 _) rfl (by decide) dX3_triedIsLess_49 ?_
        refine wl_goto hX (tgt := 2) dX3_triedIsLess_52 (by decide) ?_
        refine wl_sub hX [1, 0] rfl ?_
        exact ih (q + 1) (by omega) hg2
      · rw [if_neg h1] at hg2
        refine wl_aload_n hX 0 rfl dX3_triedIsLess_28 ?_
        refine gf_X3_5 hX tb_99 dX3_triedIsLess_29 ?_
        refine wl_iload_n hX 1 rfl dX3_triedIsLess_32 ?_
        refine wl_iald hX q kc_14 rfl (by omega) dX3_triedIsLess_33 ?_
        refine wl_eqi (y := s.1 q) rfl ?_
        refine wl_aload_n hX 0 rfl dX3_triedIsLess_34 ?_
        refine gf_X3_6 hX tb_100 dX3_triedIsLess_35 ?_
        refine wl_iload_n hX 1 rfl dX3_triedIsLess_38 ?_
        refine wl_iald hX q kc_15 rfl (by omega) dX3_triedIsLess_39 ?_
        refine wl_eqi (y := s.2.1 q) rfl ?_
        refine wl_icmp_ge hX (tgt := 47) dX3_triedIsLess_40 (by decide) (fun h2 => ?_) (fun h2 => ?_)
        · refine wl_iconst hX (v := 0) dX3_triedIsLess_47 (by decide) ?_
          exact wl_zreturn hT dX3_triedIsLess_48 (by decide) (hx_ri (by rw [← hg2, if_neg (fun z => by rw [Int32.lt_iff_toInt_lt] at z; rw [Int32.le_iff_toInt_le] at h2; omega)]))
        · refine wl_iconst hX (v := 1) dX3_triedIsLess_43 (by decide) ?_
          refine wl_goto hX (tgt := 48) dX3_triedIsLess_44 (by decide) ?_
          exact wl_zreturn hT dX3_triedIsLess_48 (by decide) (hx_ri (by rw [← hg2, if_pos (by rw [Int32.le_iff_toInt_le] at h2; rw [Int32.lt_iff_toInt_lt]; omega)]))
  refine wl_iconst hX (v := 0) dX3_triedIsLess_0 (by decide) ?_
  refine wl_istore_n hX (lv' := [(1, .int 0), (0, .ref (ad 2))]) rfl (by decide) dX3_triedIsLess_1 ?_
  refine wl_sub hX [1, 0] rfl ?_
  exact L Q 0 (by omega) hres.symm

set_option maxHeartbeats 400000 in
theorem c_X3_keepIfBetter {l : Launch} {D : va_G} {ad : Nat → Nat} {cy : Nat → ClassId} (hi : hx_inj ad) (I : MI) (J : MJ) (s : SS) (g c : Int32) (Q : Nat) (hQ : I 1 1 = nI Q) (hQ6 : Q ≤ 6) : Ct l D ad cy yX3_keepIfBetter cX3_keepIfBetter 3 none 1 [.ref (ad 2), .int g, .int c] (smM I s) J (hx_is none (smM I (kbF Q s g c)) J) := by
  refine ct_start hi (by decide +kernel) (Nat.le_of_ble_eq_true rfl) (fun X hX hT => ?_)
  show X 0 [(0, .ref (ad 2)), (1, .int g), (2, .int c)] [] (smM I s) J
  have K : (¬ g < s.2.2.1) → (¬ (g = s.2.2.1 ∧ (s.2.2.2 < c ∨ (c = s.2.2.2 ∧ lxF s.1 s.2.1 Q 0 = 0)))) → X 41 [(0, .ref (ad 2)), (1, .int g), (2, .int c)] [] (smM I s) J := by
    intro k1 k2
    have e9 : kbF Q s g c = (s.1, va_cpy s.1 s.2.1 0 0 Q, g, c) := by
      unfold kbF
      rw [if_neg k1, if_neg k2]
    refine wl_aload_n hX 0 rfl dX3_keepIfBetter_41 ?_
    refine wl_iload_n hX 1 rfl dX3_keepIfBetter_42 ?_
    refine pf_X3_7 hX tb_102 dX3_keepIfBetter_43 ?_
    refine wl_mem (I' := (smM I (s.1, s.2.1, g, s.2.2.2))) (smM_g I s g) rfl ?_
    refine wl_aload_n hX 0 rfl dX3_keepIfBetter_46 ?_
    refine wl_iload_n hX 2 rfl dX3_keepIfBetter_47 ?_
    refine pf_X3_8 hX tb_105 dX3_keepIfBetter_48 ?_
    refine wl_mem (I' := (smM I (s.1, s.2.1, g, c))) (smM_c I (s.1, s.2.1, g, s.2.2.2) c) rfl ?_
    refine wl_aload_n hX 0 rfl dX3_keepIfBetter_51 ?_
    refine gf_X3_5 hX tb_99 dX3_keepIfBetter_52 ?_
    refine wl_iconst hX (v := 0) dX3_keepIfBetter_55 (by decide) ?_
    refine wl_aload_n hX 0 rfl dX3_keepIfBetter_56 ?_
    refine gf_X3_6 hX tb_100 dX3_keepIfBetter_57 ?_
    refine wl_iconst hX (v := 0) dX3_keepIfBetter_60 (by decide) ?_
    refine wl_aload_n hX 0 rfl dX3_keepIfBetter_61 ?_
    refine gf_X3_0 hX tb_94 dX3_keepIfBetter_62 ?_
    refine gf_X1_1 hX tb_53 dX3_keepIfBetter_65 ?_
    refine wl_eqi (y := nI Q) hQ ?_
    refine wl_copy hX (n := Q) kc_14 kc_15 rfl rfl rfl (by omega) (by omega) (by omega) tb_331 tb_333 tb_332 tb_32 dX3_keepIfBetter_68 ?_
    refine wl_mem (I' := (smM I (s.1, va_cpy s.1 s.2.1 0 0 Q, g, c))) (smM_f I (s.1, s.2.1, g, c) Q) rfl ?_
    exact wl_return hT dX3_keepIfBetter_71 ⟨rfl, by rw [e9], rfl⟩
  refine wl_iload_n hX 1 rfl dX3_keepIfBetter_0 ?_
  refine wl_aload_n hX 0 rfl dX3_keepIfBetter_1 ?_
  refine gf_X3_7 hX tb_102 dX3_keepIfBetter_2 ?_
  refine wl_eqi (y := s.2.2.1) rfl ?_
  refine wl_icmp_ge hX (tgt := 9) dX3_keepIfBetter_5 (by decide) (fun h1 => ?_) (fun h1 => ?_)
  · have k1 : ¬ g < s.2.2.1 := (fun z => by rw [Int32.lt_iff_toInt_lt] at z; rw [Int32.le_iff_toInt_le] at h1; omega)
    refine wl_iload_n hX 1 rfl dX3_keepIfBetter_9 ?_
    refine wl_aload_n hX 0 rfl dX3_keepIfBetter_10 ?_
    refine gf_X3_7 hX tb_102 dX3_keepIfBetter_11 ?_
    refine wl_eqi (y := s.2.2.1) rfl ?_
    refine wl_icmp_ne hX (tgt := 41) dX3_keepIfBetter_14 (by decide) (fun h2 => ?_) (fun h2 => ?_)
    · exact K k1 (fun z => h2 z.1)
    · refine wl_iload_n hX 2 rfl dX3_keepIfBetter_17 ?_
      refine wl_aload_n hX 0 rfl dX3_keepIfBetter_18 ?_
      refine gf_X3_8 hX tb_105 dX3_keepIfBetter_19 ?_
      refine wl_eqi (y := s.2.2.2) rfl ?_
      refine wl_icmp_gt hX (tgt := 40) dX3_keepIfBetter_22 (by decide) (fun h3 => ?_) (fun h3 => ?_)
      · have e9 : kbF Q s g c = s := by
          unfold kbF
          rw [if_neg k1, if_pos ⟨h2, Or.inl h3⟩]
        exact wl_return hT dX3_keepIfBetter_40 ⟨rfl, by rw [e9], rfl⟩
      · refine wl_iload_n hX 2 rfl dX3_keepIfBetter_25 ?_
        refine wl_aload_n hX 0 rfl dX3_keepIfBetter_26 ?_
        refine gf_X3_8 hX tb_105 dX3_keepIfBetter_27 ?_
        refine wl_eqi (y := s.2.2.2) rfl ?_
        refine wl_icmp_ne hX (tgt := 41) dX3_keepIfBetter_30 (by decide) (fun h4 => ?_) (fun h4 => ?_)
        · exact K k1 (fun z => z.2.elim h3 (fun y => h4 y.1))
        · refine wl_aload_n hX 0 rfl dX3_keepIfBetter_33 ?_
          refine wl_cVi hX (c_X3_triedIsLess hi I J s Q hQ hQ6) mv_X3_triedIsLess tb_327 (by decide) rfl rfl rfl rfl (by omega) (Nat.le_of_ble_eq_true rfl) dX3_keepIfBetter_34 ?_
          refine wl_if_ne hX (tgt := 41) dX3_keepIfBetter_37 (by decide) (fun h5 => ?_) (fun h5 => ?_)
          · exact K k1 (fun z => z.2.elim h3 (fun y => h5 y.2))
          · have e9 : kbF Q s g c = s := by
              unfold kbF
              rw [if_neg k1, if_pos ⟨h2, Or.inr ⟨h4, h5⟩⟩]
            exact wl_return hT dX3_keepIfBetter_40 ⟨rfl, by rw [e9], rfl⟩
  · have e9 : kbF Q s g c = s := by
      unfold kbF
      rw [if_pos (by rw [Int32.lt_iff_toInt_lt]; rw [Int32.le_iff_toInt_le] at h1; omega)]
    exact wl_return hT dX3_keepIfBetter_8 ⟨rfl, by rw [e9], rfl⟩

set_option maxHeartbeats 400000 in
theorem c_X3_addChoice {l : Launch} {D : va_G} {ad : Nat → Nat} {cy : Nat → ClassId} (hi : hx_inj ad) (I : MI) (J : MJ) (q a : Nat) (v g : Int32) (hq : q < 6) (ha : I 10 q = nI a) (ha3 : a ≤ 3) : Ct l D ad cy yX3_addChoice cX3_addChoice 5 none 0 [.ref (ad 2), .int (nI q), .int v, .int g] I J (hx_is none (plM I q a (adF a v g)) J) := by
  refine ct_start hi (by decide +kernel) (Nat.le_of_ble_eq_true rfl) (fun X hX hT => ?_)
  show X 0 [(0, .ref (ad 2)), (1, .int (nI q)), (2, .int v), (3, .int g)] [] I J
  refine wl_aload_n hX 0 rfl dX3_addChoice_0 ?_
  refine gf_X3_1 hX tb_95 dX3_addChoice_1 ?_
  refine wl_iload_n hX 1 rfl dX3_addChoice_4 ?_
  refine wl_iald hX q kc_10 rfl (by omega) dX3_addChoice_5 ?_
  refine wl_eqi (y := nI a) ha ?_
  refine wl_istore hX (lv' := [(4, .int (nI a)), (0, .ref (ad 2)), (1, .int (nI q)), (2, .int v), (3, .int g)]) rfl (by decide) dX3_addChoice_6 ?_
  refine wl_iload hX 0 rfl dX3_addChoice_8 ?_
  refine wl_iconst hX (v := 3) dX3_addChoice_10 (by decide) ?_
  refine wl_icmp_ge hX (tgt := 26) dX3_addChoice_11 (by decide) (fun h1 => ?_) (fun h1 => ?_)
  · have e9 : adF a v g = [] := if_pos (Or.inl ((nI_leI (a := 3) (by omega) (by omega)).mp h1))
    exact wl_return hT dX3_addChoice_26 ⟨rfl, by rw [e9]; rfl, rfl⟩
  · have k1 : ¬ 3 ≤ a := fun z => h1 ((nI_leI (a := 3) (by omega) (by omega)).mpr z)
    refine wl_iload_n hX 3 rfl dX3_addChoice_14 ?_
    refine wl_bipush hX (v := (-40)) dX3_addChoice_15 (by decide) ?_
    refine wl_icmp_lt hX (tgt := 26) dX3_addChoice_17 (by decide) (fun h2 => ?_) (fun h2 => ?_)
    · have e9 : adF a v g = [] := if_pos (Or.inr (Or.inl h2))
      exact wl_return hT dX3_addChoice_26 ⟨rfl, by rw [e9]; rfl, rfl⟩
    · refine wl_iload_n hX 3 rfl dX3_addChoice_20 ?_
      refine wl_bipush hX (v := 40) dX3_addChoice_21 (by decide) ?_
      refine wl_icmp_le hX (tgt := 27) dX3_addChoice_23 (by decide) (fun h3 => ?_) (fun h3 => ?_)
      · have e9 : adF a v g = [(v, g)] := if_neg (fun z => z.elim k1 (fun y => y.elim h2 (fun x => by rw [Int32.lt_iff_toInt_lt] at x; rw [Int32.le_iff_toInt_le] at h3; omega)))
        refine wl_aload_n hX 1 rfl dX3_addChoice_27 ?_
        refine gf_X3_2 hX tb_96 dX3_addChoice_28 ?_
        refine wl_iload_n hX 2 rfl dX3_addChoice_31 ?_
        refine wl_aald4 hX q kc_11 rfl (by omega) dX3_addChoice_32 ?_
        refine wl_iload hX 0 rfl dX3_addChoice_33 ?_
        refine wl_iload_n hX 3 rfl dX3_addChoice_35 ?_
        refine wl_iast hX a (kd_57 (by omega)) rfl (by omega) dX3_addChoice_36 ?_
        refine wl_aload_n hX 1 rfl dX3_addChoice_37 ?_
        refine gf_X3_3 hX tb_97 dX3_addChoice_38 ?_
        refine wl_iload_n hX 2 rfl dX3_addChoice_41 ?_
        refine wl_aald4 hX q kc_12 rfl (by omega) dX3_addChoice_42 ?_
        refine wl_iload hX 0 rfl dX3_addChoice_43 ?_
        refine wl_iload_n hX 4 rfl dX3_addChoice_45 ?_
        refine wl_iast hX a (kd_63 (by omega)) rfl (by omega) dX3_addChoice_46 ?_
        refine wl_aload_n hX 1 rfl dX3_addChoice_47 ?_
        refine gf_X3_1 hX tb_95 dX3_addChoice_48 ?_
        refine wl_iload_n hX 2 rfl dX3_addChoice_51 ?_
        refine wl_dup2_11 hX dX3_addChoice_52 rfl rfl ?_
        refine wl_iald hX q kc_10 rfl (by omega) dX3_addChoice_53 ?_
        refine wl_eqi (y := nI a) (by rw [hx_u_ne _ _ _ (by omega), hx_u_ne _ _ _ (by omega)]; exact ha) ?_
        refine wl_iconst hX (v := 1) dX3_addChoice_54 (by decide) ?_
        refine wl_iadd hX dX3_addChoice_55 ?_
        refine wl_eqi (y := nI (a + 1)) (nI_1 a) ?_
        refine wl_iast hX q kc_10 rfl (by omega) dX3_addChoice_56 ?_
        exact wl_return hT dX3_addChoice_57 ⟨rfl, by rw [e9]; rfl, rfl⟩
      · have e9 : adF a v g = [] := if_pos (Or.inr (Or.inr (by rw [Int32.le_iff_toInt_le] at h3; rw [Int32.lt_iff_toInt_lt]; omega)))
        exact wl_return hT dX3_addChoice_26 ⟨rfl, by rw [e9]; rfl, rfl⟩

set_option maxHeartbeats 400000 in
theorem c_X3_listChoices {l : Launch} {D : va_G} {ad : Nat → Nat} {cy : Nat → ClassId} (hi : hx_inj ad) (I : MI) (J : MJ) (q : Nat) (o w : Int32) (hq : q < 6) : Ct l D ad cy yX3_listChoices cX3_listChoices 6 none 1 [.ref (ad 2), .int (nI q), .int o, .int w] I J (hx_is none (plM (hx_u I 10 q 0) q 0 (opC o w)) J) := by
  refine ct_start hi (by decide +kernel) (Nat.le_of_ble_eq_true rfl) (fun X hX hT => ?_)
  show X 0 [(0, .ref (ad 2)), (1, .int (nI q)), (2, .int o), (3, .int w)] [] I J
  refine wl_aload_n hX 0 rfl dX3_listChoices_0 ?_
  refine gf_X3_1 hX tb_95 dX3_listChoices_1 ?_
  refine wl_iload_n hX 1 rfl dX3_listChoices_4 ?_
  refine wl_iconst hX (v := 0) dX3_listChoices_5 (by decide) ?_
  refine wl_iast hX q kc_10 rfl (by omega) dX3_listChoices_6 ?_
  have n0 : (hx_u I 10 q 0) 10 q = nI 0 := by rw [hx_u_same]; exact if_pos rfl
  have nA := plM_n q (opA o w) (hx_u I 10 q 0) 0 n0
  have lA := opA_len o w
  have nB := plM_n q (opA o w ++ opB o w) (hx_u I 10 q 0) 0 n0
  have lB := opB_len o w
  have lAB : (opA o w ++ opB o w).length ≤ 2 := by rw [List.length_append]; omega
  have K73 : X 73 [(0, .ref (ad 2)), (1, .int (nI q)), (2, .int o), (3, .int w), (4, .int (beF w)), (5, .int (gByF o w))] [] (plM (hx_u I 10 q 0) q 0 (opA o w ++ opB o w)) J := by
    refine wl_aload_n hX 0 rfl dX3_listChoices_73 ?_
    refine wl_iload_n hX 1 rfl dX3_listChoices_74 ?_
    refine wl_iconst hX (v := 0) dX3_listChoices_75 (by decide) ?_
    refine wl_iload hX 5 rfl dX3_listChoices_76 ?_
    refine wl_cVv hX (c_X3_addChoice hi (plM (hx_u I 10 q 0) q 0 (opA o w ++ opB o w)) J q (0 + (opA o w ++ opB o w).length) 0 (gByF o w) hq nB (by omega)) mv_X3_addChoice tb_316 (by decide) rfl rfl rfl rfl (by omega) (Nat.le_of_ble_eq_true rfl) dX3_listChoices_78 ?_
    have e9 : adF (0 + (opA o w ++ opB o w).length) 0 (gByF o w) = [(0, gByF o w)] := if_neg (fun z => z.elim (fun y => by omega) (fun y => y.elim (by decide) (by decide)))
    exact wl_return hT dX3_listChoices_81 ⟨rfl, by rw [e9]; exact (plM_app q [(0, gByF o w)] (opA o w ++ opB o w) _ 0).symm, rfl⟩
  have K51 : X 51 [(0, .ref (ad 2)), (1, .int (nI q)), (2, .int o), (3, .int w), (4, .int (beF w)), (5, .int (gByF o w))] [] (plM (hx_u I 10 q 0) q 0 (opA o w)) J := by
    refine wl_iconst hX (v := 0) dX3_listChoices_51 (by decide) ?_
    refine wl_iload_n hX 3 rfl dX3_listChoices_52 ?_
    refine wl_cSi hX (c_X1_gainBy hi (plM (hx_u I 10 q 0) q 0 (opA o w)) J 0 w) mv_X1_gainBy tb_315 rfl rfl (by omega) (Nat.le_of_ble_eq_true rfl) dX3_listChoices_53 ?_
    refine wl_iload hX 5 rfl dX3_listChoices_56 ?_
    refine wl_icmp_le hX (tgt := 73) dX3_listChoices_58 (by decide) (fun h1 => ?_) (fun h1 => ?_)
    · have e9 : opB o w = [] := if_neg (fun z => by have z1 := z.1; rw [Int32.lt_iff_toInt_lt] at z1; rw [Int32.le_iff_toInt_le] at h1; omega)
      rw [e9, List.append_nil] at K73
      exact K73
    · have k1 : gByF o w < gByF 0 w := by rw [Int32.lt_iff_toInt_lt]; rw [Int32.le_iff_toInt_le] at h1; omega
      refine wl_aload_n hX 0 rfl dX3_listChoices_61 ?_
      refine wl_iload_n hX 1 rfl dX3_listChoices_62 ?_
      refine wl_iload_n hX 2 rfl dX3_listChoices_63 ?_
      refine wl_ineg hX dX3_listChoices_64 ?_
      refine wl_iconst hX (v := 0) dX3_listChoices_65 (by decide) ?_
      refine wl_iload_n hX 3 rfl dX3_listChoices_66 ?_
      refine wl_cSi hX (c_X1_gainBy hi (plM (hx_u I 10 q 0) q 0 (opA o w)) J 0 w) mv_X1_gainBy tb_315 rfl rfl (by omega) (Nat.le_of_ble_eq_true rfl) dX3_listChoices_67 ?_
      refine wl_cVv hX (c_X3_addChoice hi (plM (hx_u I 10 q 0) q 0 (opA o w)) J q (0 + (opA o w).length) (-o) (gByF 0 w) hq nA (by omega)) mv_X3_addChoice tb_316 (by decide) rfl rfl rfl rfl (by omega) (Nat.le_of_ble_eq_true rfl) dX3_listChoices_70 ?_
      have e9 : adF (0 + (opA o w).length) (-o) (gByF 0 w) = opB o w := by
        unfold adF opB
        by_cases k2 : -o < (-40) ∨ 40 < -o
        · rw [if_pos (Or.inr k2), if_neg (fun z => z.2 k2)]
        · rw [if_neg (fun z => z.elim (fun y => by omega) k2), if_pos ⟨k1, k2⟩]
      rw [e9, ← plM_app]
      exact K73
  have K16 : X 16 [(0, .ref (ad 2)), (1, .int (nI q)), (2, .int o), (3, .int w)] [.int (beF w)] (hx_u I 10 q 0) J := by
    refine wl_istore hX (lv' := [(4, .int (beF w)), (0, .ref (ad 2)), (1, .int (nI q)), (2, .int o), (3, .int w)]) rfl (by decide) dX3_listChoices_16 ?_
    refine wl_iload_n hX 3 rfl dX3_listChoices_18 ?_
    refine wl_iload_n hX 4 rfl dX3_listChoices_19 ?_
    refine wl_cSi hX (c_X1_gainBy hi (hx_u I 10 q 0) J o w) mv_X1_gainBy tb_315 rfl rfl (by omega) (Nat.le_of_ble_eq_true rfl) dX3_listChoices_20 ?_
    refine wl_istore hX (lv' := [(5, .int (gByF o w)), (4, .int (beF w)), (0, .ref (ad 2)), (1, .int (nI q)), (2, .int o), (3, .int w)]) rfl (by decide) dX3_listChoices_23 ?_
    refine wl_iload hX 1 rfl dX3_listChoices_25 ?_
    refine wl_iload_n hX 5 rfl dX3_listChoices_27 ?_
    refine wl_cSi hX (c_X1_gainBy hi (hx_u I 10 q 0) J (beF w) w) mv_X1_gainBy tb_315 rfl rfl (by omega) (Nat.le_of_ble_eq_true rfl) dX3_listChoices_28 ?_
    refine wl_iload hX 0 rfl dX3_listChoices_31 ?_
    refine wl_icmp_le hX (tgt := 51) dX3_listChoices_33 (by decide) (fun h1 => ?_) (fun h1 => ?_)
    · have e9 : opA o w = [] := if_neg (fun z => by have z1 := z.1; rw [Int32.lt_iff_toInt_lt] at z1; rw [Int32.le_iff_toInt_le] at h1; omega)
      rw [e9] at K51
      refine wl_sub hX [2, 3, 4, 5, 1, 0] rfl ?_
      exact K51
    · have k1 : gByF o w < gByF (beF w) w := by rw [Int32.lt_iff_toInt_lt]; rw [Int32.le_iff_toInt_le] at h1; omega
      refine wl_aload_n hX 2 rfl dX3_listChoices_36 ?_
      refine wl_iload_n hX 3 rfl dX3_listChoices_37 ?_
      refine wl_iload hX 1 rfl dX3_listChoices_38 ?_
      refine wl_iload_n hX 4 rfl dX3_listChoices_40 ?_
      refine wl_isub hX dX3_listChoices_41 ?_
      refine wl_iload hX 1 rfl dX3_listChoices_42 ?_
      refine wl_iload_n hX 5 rfl dX3_listChoices_44 ?_
      refine wl_cSi hX (c_X1_gainBy hi (hx_u I 10 q 0) J (beF w) w) mv_X1_gainBy tb_315 rfl rfl (by omega) (Nat.le_of_ble_eq_true rfl) dX3_listChoices_45 ?_
      refine wl_cVv hX (c_X3_addChoice hi (hx_u I 10 q 0) J q 0 (beF w - o) (gByF (beF w) w) hq n0 (by omega)) mv_X3_addChoice tb_316 (by decide) rfl rfl rfl rfl (by omega) (Nat.le_of_ble_eq_true rfl) dX3_listChoices_48 ?_
      have e9 : adF 0 (beF w - o) (gByF (beF w) w) = opA o w := by
        unfold adF opA
        by_cases k2 : beF w - o < (-40) ∨ 40 < beF w - o
        · rw [if_pos (Or.inr k2), if_neg (fun z => z.2 k2)]
        · rw [if_neg (fun z => z.elim (fun y => by omega) k2), if_pos ⟨k1, k2⟩]
      rw [e9]
      refine wl_sub hX [2, 3, 4, 5, 1, 0] rfl ?_
      exact K51
  refine wl_iload_n hX 3 rfl dX3_listChoices_7 ?_
  refine wl_if_le hX (tgt := 15) dX3_listChoices_8 (by decide) (fun h1 => ?_) (fun h1 => ?_)
  · refine wl_iconst hX (v := (-1)) dX3_listChoices_15 (by decide) ?_
    refine wl_eqi (y := beF w) (if_neg (fun z => by rw [Int32.lt_iff_toInt_lt] at z; rw [Int32.le_iff_toInt_le] at h1; omega)).symm ?_
    exact K16
  · refine wl_iconst hX (v := 1) dX3_listChoices_11 (by decide) ?_
    refine wl_goto hX (tgt := 16) dX3_listChoices_12 (by decide) ?_
    refine wl_eqi (y := beF w) (if_pos (by rw [Int32.lt_iff_toInt_lt]; rw [Int32.le_iff_toInt_le] at h1; omega)).symm ?_
    exact K16

set_option maxHeartbeats 1000000 in
theorem c_X3_tryFrom {l : Launch} {D : va_G} {ad : Nat → Nat} {cy : Nat → ClassId} (hi : hx_inj ad) (I : MI) (J : MJ) (Q : Nat) (hQ : I 1 1 = nI Q) (hQ6 : Q ≤ 6) (n : Nat → Nat) (hn : ∀ q, q < Q → I 10 q = nI (n q) ∧ n q ≤ 3) : ∀ (d q : Nat) (s : SS) (g c : Int32), q + d = Q → Ct l D ad cy yX3_tryFrom cX3_tryFrom 7 none (2 + d) [.ref (ad 2), .int (nI q), .int g, .int c] (smM I s) J (hx_is none (smM I (tryF Q n (oV I) (oG I) (I 13) (I 2 9) d q s g c)) J) := by
  intro d
  induction d with
  | zero =>
    intro q s g c hq
    refine ct_start hi (by decide +kernel) (Nat.le_of_ble_eq_true rfl) (fun X hX hT => ?_)
    show X 0 [(0, .ref (ad 2)), (1, .int (nI q)), (2, .int g), (3, .int c)] [] (smM I s) J
    refine wl_iload_n hX 1 rfl dX3_tryFrom_0 ?_
    refine wl_aload_n hX 0 rfl dX3_tryFrom_1 ?_
    refine gf_X3_0 hX tb_94 dX3_tryFrom_2 ?_
    refine gf_X1_1 hX tb_53 dX3_tryFrom_5 ?_
    refine wl_eqi (y := nI Q) hQ ?_
    refine wl_icmp_lt hX (tgt := 18) dX3_tryFrom_8 (by decide) (fun h9 => absurd h9 (fun z => absurd ((nI_ltI (by omega) (by omega)).mp z) (by omega))) (fun h9 => ?_)
    refine wl_aload_n hX 0 rfl dX3_tryFrom_11 ?_
    refine wl_iload_n hX 2 rfl dX3_tryFrom_12 ?_
    refine wl_iload_n hX 3 rfl dX3_tryFrom_13 ?_
    refine wl_cVv hX (c_X3_keepIfBetter hi I J s g c Q hQ hQ6) mv_X3_keepIfBetter tb_323 (by decide) rfl rfl rfl rfl (by omega) (Nat.le_of_ble_eq_true rfl) dX3_tryFrom_14 ?_
    exact wl_return hT dX3_tryFrom_17 ⟨rfl, rfl, rfl⟩
  | succ d ih =>
    intro q s g c hq
    have hq2 : q < Q := by omega
    have hn3 := (hn q hq2).2
    refine ct_start hi (by decide +kernel) (Nat.le_of_ble_eq_true rfl) (fun X hX hT => ?_)
    have e8 : tryF Q n (oV I) (oG I) (I 13) (I 2 9) (d + 1) q s g c = if g + I 13 q < s.2.2.1 ∨ (g + I 13 q = s.2.2.1 ∧ s.2.2.2 < c) then s else foF (stF (tryF Q n (oV I) (oG I) (I 13) (I 2 9) d (q + 1)) (oV I q) (oG I q) (I 2 9) g c q) (n q) s := rfl
    show X 0 [(0, .ref (ad 2)), (1, .int (nI q)), (2, .int g), (3, .int c)] [] (smM I s) J
    refine wl_iload_n hX 1 rfl dX3_tryFrom_0 ?_
    refine wl_aload_n hX 0 rfl dX3_tryFrom_1 ?_
    refine gf_X3_0 hX tb_94 dX3_tryFrom_2 ?_
    refine gf_X1_1 hX tb_53 dX3_tryFrom_5 ?_
    refine wl_eqi (y := nI Q) hQ ?_
    refine wl_icmp_lt hX (tgt := 18) dX3_tryFrom_8 (by decide) (fun h9 => ?_) (fun h9 => absurd ((nI_ltI (by omega) (by omega)).mpr (by omega)) h9)
    refine wl_iload_n hX 2 rfl dX3_tryFrom_18 ?_
    refine wl_aload_n hX 0 rfl dX3_tryFrom_19 ?_
    refine gf_X3_4 hX tb_98 dX3_tryFrom_20 ?_
    refine wl_iload_n hX 1 rfl dX3_tryFrom_23 ?_
    refine wl_iald hX q kc_13 rfl (by omega) dX3_tryFrom_24 ?_
    refine wl_eqi (y := I 13 q) rfl ?_
    refine wl_iadd hX dX3_tryFrom_25 ?_
    have K : ¬ (g + I 13 q < s.2.2.1 ∨ (g + I 13 q = s.2.2.1 ∧ s.2.2.2 < c)) → X 55 [(4, .int (g + I 13 q)), (0, .ref (ad 2)), (1, .int (nI q)), (2, .int g), (3, .int c)] [] (smM I s) J := by
      intro k1
      rw [if_neg k1] at e8
      rw [e8] at hT
      refine wl_iconst hX (v := 0) dX3_tryFrom_55 (by decide) ?_
      refine wl_istore hX (lv' := [(5, .int 0), (4, .int (g + I 13 q)), (0, .ref (ad 2)), (1, .int (nI q)), (2, .int g), (3, .int c)]) rfl (by decide) dX3_tryFrom_56 ?_
      refine wl_sub hX [2, 3, 4, 5, 1, 0] rfl ?_
      have L : ∀ (k i : Nat), i ≤ (n q) → (n q) - i < k → X 58 [(0, .ref (ad 2)), (1, .int (nI q)), (2, .int g), (3, .int c), (4, .int (g + I 13 q)), (5, .int (nI i))] [] (smM I (foF (stF (tryF Q n (oV I) (oG I) (I 13) (I 2 9) d (q + 1)) (oV I q) (oG I q) (I 2 9) g c q) i s)) J := by
        intro k
        induction k with
        | zero => exact fun _  _ h => absurd h (Nat.not_lt_zero _)
        | succ k ihL =>
          intro i  hin hik
          refine wl_iload hX 5 rfl dX3_tryFrom_58 ?_
          refine wl_aload_n hX 0 rfl dX3_tryFrom_60 ?_
          refine gf_X3_1 hX tb_95 dX3_tryFrom_61 ?_
          refine wl_iload_n hX 1 rfl dX3_tryFrom_64 ?_
          refine wl_iald hX q kc_10 rfl (by omega) dX3_tryFrom_65 ?_
          refine wl_eqi (y := nI (n q)) (hn q (by omega)).1 ?_
          refine wl_icmp_ge hX (tgt := 133) dX3_tryFrom_66 (by decide) (fun hic => ?_) (fun hic => ?_)
          · have hie : i = (n q) := by
              have h9 := (nI_leI (by omega) (by omega)).mp hic
              omega
            exact wl_return hT dX3_tryFrom_133 ⟨rfl, by rw [hie], rfl⟩
          · have hi1 : i < (n q) := Nat.lt_of_not_le (fun z => hic ((nI_leI (by omega) (by omega)).mpr z))
            have e2 : foF (stF (tryF Q n (oV I) (oG I) (I 13) (I 2 9) d (q + 1)) (oV I q) (oG I q) (I 2 9) g c q) (i + 1) s = if I 2 9 < c + oV I q i * oV I q i then foF (stF (tryF Q n (oV I) (oG I) (I 13) (I 2 9) d (q + 1)) (oV I q) (oG I q) (I 2 9) g c q) i s else tryF Q n (oV I) (oG I) (I 13) (I 2 9) d (q + 1) (upd (foF (stF (tryF Q n (oV I) (oG I) (I 13) (I 2 9) d (q + 1)) (oV I q) (oG I q) (I 2 9) g c q) i s).1 q (oV I q i), (foF (stF (tryF Q n (oV I) (oG I) (I 13) (I 2 9) d (q + 1)) (oV I q) (oG I q) (I 2 9) g c q) i s).2) (g + oG I q i) (c + oV I q i * oV I q i) := rfl
            refine wl_aload_n hX 0 rfl dX3_tryFrom_69 ?_
            refine gf_X3_2 hX tb_96 dX3_tryFrom_70 ?_
            refine wl_iload_n hX 1 rfl dX3_tryFrom_73 ?_
            refine wl_aald4 hX q kc_11 rfl (by omega) dX3_tryFrom_74 ?_
            refine wl_iload hX 5 rfl dX3_tryFrom_75 ?_
            refine wl_iald hX i (kd_57 (by omega)) rfl (by omega) dX3_tryFrom_77 ?_
            refine wl_eqi (y := oV I q i) (by rw [smM_ne (by omega) (by omega) (by omega)]; rfl) ?_
            refine wl_istore hX (lv' := [(6, .int (oV I q i)), (0, .ref (ad 2)), (1, .int (nI q)), (2, .int g), (3, .int c), (4, .int (g + I 13 q)), (5, .int (nI i))]) rfl (by decide) dX3_tryFrom_78 ?_
            refine wl_iload_n hX 4 rfl dX3_tryFrom_80 ?_
            refine wl_iload hX 0 rfl dX3_tryFrom_81 ?_
            refine wl_iload hX 0 rfl dX3_tryFrom_83 ?_
            refine wl_imul hX dX3_tryFrom_85 ?_
            refine wl_iadd hX dX3_tryFrom_86 ?_
            refine wl_aload_n hX 1 rfl dX3_tryFrom_87 ?_
            refine gf_X3_9 hX tb_106 dX3_tryFrom_88 ?_
            refine wl_eqi (y := I 2 9) rfl ?_
            refine wl_icmp_gt hX (tgt := 127) dX3_tryFrom_91 (by decide) (fun h2 => ?_) (fun h2 => ?_)
            · rw [if_pos h2] at e2
              rw [← e2]
              refine wl_iinc hX (v := nI (i + 1)) (lv' := [(5, .int (nI (i + 1))), (6, .int (oV I q i)), (0, .ref (ad 2)), (1, .int (nI q)), (2, .int g), (3, .int c), (4, .int (g + I 13 q))]) 6 rfl (nI_1 _) rfl (by decide) dX3_tryFrom_127 ?_
              refine wl_goto hX (tgt := 58) dX3_tryFrom_130 (by decide) ?_
              refine wl_sub hX [2, 3, 4, 5, 6, 0] rfl ?_
              exact ihL (i + 1) (by omega) (by omega)
            · rw [if_neg h2] at e2
              refine wl_aload_n hX 1 rfl dX3_tryFrom_94 ?_
              refine gf_X3_5 hX tb_99 dX3_tryFrom_95 ?_
              refine wl_iload_n hX 2 rfl dX3_tryFrom_98 ?_
              refine wl_iload hX 0 rfl dX3_tryFrom_99 ?_
              refine wl_iast hX q kc_14 rfl (by omega) dX3_tryFrom_101 ?_
              refine wl_mem (I' := (smM I (upd (foF (stF (tryF Q n (oV I) (oG I) (I 13) (I 2 9) d (q + 1)) (oV I q) (oG I q) (I 2 9) g c q) i s).1 q (oV I q i), (foF (stF (tryF Q n (oV I) (oG I) (I 13) (I 2 9) d (q + 1)) (oV I q) (oG I q) (I 2 9) g c q) i s).2))) (smM_t I (foF (stF (tryF Q n (oV I) (oG I) (I 13) (I 2 9) d (q + 1)) (oV I q) (oG I q) (I 2 9) g c q) i s) q (oV I q i)) rfl ?_
              refine wl_aload_n hX 1 rfl dX3_tryFrom_102 ?_
              refine wl_iload_n hX 2 rfl dX3_tryFrom_103 ?_
              refine wl_iconst hX (v := 1) dX3_tryFrom_104 (by decide) ?_
              refine wl_iadd hX dX3_tryFrom_105 ?_
              refine wl_eqi (y := nI (q + 1)) (nI_1 q) ?_
              refine wl_iload_n hX 3 rfl dX3_tryFrom_106 ?_
              refine wl_aload_n hX 1 rfl dX3_tryFrom_107 ?_
              refine gf_X3_3 hX tb_97 dX3_tryFrom_108 ?_
              refine wl_iload_n hX 2 rfl dX3_tryFrom_111 ?_
              refine wl_aald4 hX q kc_12 rfl (by omega) dX3_tryFrom_112 ?_
              refine wl_iload hX 6 rfl dX3_tryFrom_113 ?_
              refine wl_iald hX i (kd_63 (by omega)) rfl (by omega) dX3_tryFrom_115 ?_
              refine wl_eqi (y := oG I q i) (by rw [smM_ne (by omega) (by omega) (by omega)]; rfl) ?_
              refine wl_iadd hX dX3_tryFrom_116 ?_
              refine wl_iload_n hX 4 rfl dX3_tryFrom_117 ?_
              refine wl_iload hX 0 rfl dX3_tryFrom_118 ?_
              refine wl_iload hX 0 rfl dX3_tryFrom_120 ?_
              refine wl_imul hX dX3_tryFrom_122 ?_
              refine wl_iadd hX dX3_tryFrom_123 ?_
              refine wl_cSv hX (ih (q + 1) (upd (foF (stF (tryF Q n (oV I) (oG I) (I 13) (I 2 9) d (q + 1)) (oV I q) (oG I q) (I 2 9) g c q) i s).1 q (oV I q i), (foF (stF (tryF Q n (oV I) (oG I) (I 13) (I 2 9) d (q + 1)) (oV I q) (oG I q) (I 2 9) g c q) i s).2) (g + oG I q i) (c + oV I q i * oV I q i) (by omega)) mv_X3_tryFrom tb_320 rfl rfl (by omega) (Nat.le_of_ble_eq_true rfl) dX3_tryFrom_124 ?_
              rw [← e2]
              refine wl_iinc hX (v := nI (i + 1)) (lv' := [(5, .int (nI (i + 1))), (6, .int (oV I q i)), (0, .ref (ad 2)), (1, .int (nI q)), (2, .int g), (3, .int c), (4, .int (g + I 13 q))]) 6 rfl (nI_1 _) rfl (by decide) dX3_tryFrom_127 ?_
              refine wl_goto hX (tgt := 58) dX3_tryFrom_130 (by decide) ?_
              refine wl_sub hX [2, 3, 4, 5, 6, 0] rfl ?_
              exact ihL (i + 1) (by omega) (by omega)
      exact L ((n q) + 1) 0 (by omega) (by omega)
    refine wl_istore hX (lv' := [(4, .int (g + (I 13 q))), (0, .ref (ad 2)), (1, .int (nI q)), (2, .int g), (3, .int c)]) rfl (by decide) dX3_tryFrom_26 ?_
    refine wl_iload hX 0 rfl dX3_tryFrom_28 ?_
    refine wl_aload_n hX 1 rfl dX3_tryFrom_30 ?_
    refine gf_X3_7 hX tb_102 dX3_tryFrom_31 ?_
    refine wl_eqi (y := s.2.2.1) rfl ?_
    refine wl_icmp_lt hX (tgt := 54) dX3_tryFrom_34 (by decide) (fun h1 => ?_) (fun h1 => ?_)
    · rw [if_pos (Or.inl h1)] at e8
      exact wl_return hT dX3_tryFrom_54 ⟨rfl, by rw [e8], rfl⟩
    · refine wl_iload hX 0 rfl dX3_tryFrom_37 ?_
      refine wl_aload_n hX 1 rfl dX3_tryFrom_39 ?_
      refine gf_X3_7 hX tb_102 dX3_tryFrom_40 ?_
      refine wl_eqi (y := s.2.2.1) rfl ?_
      refine wl_icmp_ne hX (tgt := 55) dX3_tryFrom_43 (by decide) (fun h2 => ?_) (fun h2 => ?_)
      · exact K (fun z => z.elim h1 (fun y => h2 y.1))
      · refine wl_iload_n hX 4 rfl dX3_tryFrom_46 ?_
        refine wl_aload_n hX 1 rfl dX3_tryFrom_47 ?_
        refine gf_X3_8 hX tb_105 dX3_tryFrom_48 ?_
        refine wl_eqi (y := s.2.2.2) rfl ?_
        refine wl_icmp_le hX (tgt := 55) dX3_tryFrom_51 (by decide) (fun h3 => ?_) (fun h3 => ?_)
        · exact K (fun z => z.elim h1 (fun y => by have y2 := y.2; rw [Int32.lt_iff_toInt_lt] at y2; rw [Int32.le_iff_toInt_le] at h3; omega))
        · rw [if_pos (Or.inr ⟨h2, by rw [Int32.lt_iff_toInt_lt]; rw [Int32.le_iff_toInt_le] at h3; omega⟩)] at e8
          exact wl_return hT dX3_tryFrom_54 ⟨rfl, by rw [e8], rfl⟩

set_option maxHeartbeats 400000 in
theorem c_X3_giveTo {l : Launch} {D : va_G} {ad : Nat → Nat} {cy : Nat → ClassId} (hi : hx_inj ad) (I : MI) (J : MJ) (p : Nat) (hp : p < 12) (Q : Nat) (hQ : I 1 1 = nI Q) (hQ6 : Q ≤ 6) : Ct l D ad cy yX3_giveTo cX3_giveTo 2 none 1 [.ref (ad 2), .int (nI p)] I J (hx_is none (hx_cp I 15 (33 + p) Q) J) := by
  refine ct_start hi (by decide +kernel) (Nat.le_of_ble_eq_true rfl) (fun X hX hT => ?_)
  show X 0 [(0, .ref (ad 2)), (1, .int (nI p))] [] I J
  refine wl_aload_n hX 0 rfl dX3_giveTo_0 ?_
  refine gf_X3_6 hX tb_100 dX3_giveTo_1 ?_
  refine wl_iconst hX (v := 0) dX3_giveTo_4 (by decide) ?_
  refine wl_aload_n hX 0 rfl dX3_giveTo_5 ?_
  refine gf_X3_0 hX tb_94 dX3_giveTo_6 ?_
  refine gf_X1_5 hX tb_65 dX3_giveTo_9 ?_
  refine wl_iload_n hX 1 rfl dX3_giveTo_12 ?_
  refine wl_aald4 hX p kc_8 rfl (by omega) dX3_giveTo_13 ?_
  refine wl_iconst hX (v := 0) dX3_giveTo_14 (by decide) ?_
  refine wl_aload_n hX 0 rfl dX3_giveTo_15 ?_
  refine gf_X3_0 hX tb_94 dX3_giveTo_16 ?_
  refine gf_X1_1 hX tb_53 dX3_giveTo_19 ?_
  refine wl_eqi (y := nI Q) hQ ?_
  refine wl_copy hX (n := Q) kc_15 (kd_33 (by omega)) rfl rfl rfl (by omega) (by omega) (by omega) tb_331 tb_333 tb_332 tb_32 dX3_giveTo_22 ?_
  exact wl_return hT dX3_giveTo_25 ⟨rfl, rfl, rfl⟩

set_option maxHeartbeats 400000 in
theorem c_X3_findFor {l : Launch} {D : va_G} {ad : Nat → Nat} {cy : Nat → ClassId} (hi : hx_inj ad) (I : MI) (J : MJ) (P : Nat) (hP : I 1 0 = nI P) (hP12 : P ≤ 12) (p : Nat) (hp : p < P) (Q : Nat) (hQ : I 1 1 = nI Q) (hQ6 : Q ≤ 6) : Ct l D ad cy yX3_findFor cX3_findFor 3 none 9 [.ref (ad 2), .int (nI p)] I J (hx_is none (ffM I P Q p) J) := by
  refine ct_start hi (by decide +kernel) (Nat.le_of_ble_eq_true rfl) (fun X hX hT => ?_)
  show X 0 [(0, .ref (ad 2)), (1, .int (nI p))] [] I J
  refine wl_aload_n hX 0 rfl dX3_findFor_0 ?_
  refine wl_aload_n hX 0 rfl dX3_findFor_1 ?_
  refine gf_X3_0 hX tb_94 dX3_findFor_2 ?_
  refine gf_X1_3 hX tb_59 dX3_findFor_5 ?_
  refine wl_iload_n hX 1 rfl dX3_findFor_8 ?_
  refine wl_iald hX p kc_6 rfl (by omega) dX3_findFor_9 ?_
  refine pf_X3_9 hX tb_106 dX3_findFor_10 ?_
  refine wl_aload_n hX 0 rfl dX3_findFor_13 ?_
  refine wl_ldc hX tb_309 dX3_findFor_14 ?_
  refine pf_X3_7 hX tb_102 dX3_findFor_16 ?_
  refine wl_aload_n hX 0 rfl dX3_findFor_19 ?_
  refine wl_iconst hX (v := 0) dX3_findFor_20 (by decide) ?_
  refine pf_X3_8 hX tb_105 dX3_findFor_21 ?_
  refine wl_aload_n hX 0 rfl dX3_findFor_24 ?_
  refine gf_X3_4 hX tb_98 dX3_findFor_25 ?_
  refine wl_aload_n hX 0 rfl dX3_findFor_28 ?_
  refine gf_X3_0 hX tb_94 dX3_findFor_29 ?_
  refine gf_X1_1 hX tb_53 dX3_findFor_32 ?_
  refine wl_eqi (y := nI Q) hQ ?_
  refine wl_iconst hX (v := 0) dX3_findFor_35 (by decide) ?_
  refine wl_iast hX Q kc_13 rfl (by omega) dX3_findFor_36 ?_
  refine wl_aload_n hX 0 rfl dX3_findFor_37 ?_
  refine gf_X3_0 hX tb_94 dX3_findFor_38 ?_
  refine gf_X1_1 hX tb_53 dX3_findFor_41 ?_
  refine wl_eqi (y := nI Q) hQ ?_
  refine wl_iconst hX (v := 1) dX3_findFor_44 (by decide) ?_
  refine wl_isub hX dX3_findFor_45 ?_
  refine wl_istore_n hX (lv' := [(2, .int ((nI Q) - 1)), (0, .ref (ad 2)), (1, .int (nI p))]) rfl (by decide) dX3_findFor_46 ?_
  refine wl_sub hX [1, 2, 0] rfl ?_
  obtain ⟨B, hB⟩ : ∃ B : MI, B = ffB I P Q p := ⟨_, rfl⟩
  have L : ∀ (r : Nat) (M : MI), r ≤ Q → (∀ a, ¬ scrC a → M a = I a) → fsF (ffO I P p) (wC I p) r M = B → X 47 [(0, .ref (ad 2)), (1, .int (nI p)), (2, .int (nI r - 1))] [] M J := by
    intro r
    induction r with
    | zero =>
      intro M hr hM hg
      have hg2 : M = B := hg
      rw [hg2]
      refine wl_iload_n hX 2 rfl dX3_findFor_47 ?_
      refine wl_if_lt hX (tgt := 105) dX3_findFor_48 (by decide) (fun h9 => ?_) (fun h9 => absurd (by decide) h9)
      refine wl_aload_n hX 0 rfl dX3_findFor_105 ?_
      refine wl_iconst hX (v := 0) dX3_findFor_106 (by decide) ?_
      refine wl_iconst hX (v := 0) dX3_findFor_107 (by decide) ?_
      refine wl_iconst hX (v := 0) dX3_findFor_108 (by decide) ?_
      refine wl_mem (I' := (smM B (B 14, B 15, B 2 7, B 2 8))) (smM_self B).symm rfl ?_
      refine wl_cSv hX (c_X3_tryFrom hi B J Q (by rw [← hg2, hM 1 (by unfold scrC; omega)]; exact hQ) hQ6 (ffN I P p) (fun q hq => by rw [hB]; exact ⟨(fsF_10 Q _ q hQ6).1 hq, (opC_len _ _).2⟩) Q 0 (B 14, B 15, B 2 7, B 2 8) 0 0 (by omega)) mv_X3_tryFrom tb_320 rfl rfl (by omega) (Nat.le_of_ble_eq_true rfl) dX3_findFor_109 ?_
      exact wl_return hT dX3_findFor_112 ⟨rfl, by rw [hB]; rfl, rfl⟩
    | succ r ih =>
      intro M hr hM hg
      rw [nI_pred]
      refine wl_iload_n hX 2 rfl dX3_findFor_47 ?_
      refine wl_if_lt hX (tgt := 105) dX3_findFor_48 (by decide) (fun h9 => absurd h9 (nI_pos (by omega))) (fun h9 => ?_)
      refine wl_aload_n hX 0 rfl dX3_findFor_51 ?_
      refine wl_iload_n hX 2 rfl dX3_findFor_52 ?_
      refine wl_aload_n hX 0 rfl dX3_findFor_53 ?_
      refine gf_X3_0 hX tb_94 dX3_findFor_54 ?_
      refine wl_iload_n hX 1 rfl dX3_findFor_57 ?_
      refine wl_iload_n hX 2 rfl dX3_findFor_58 ?_
      refine wl_cVi hX (c_X1_countWithout hi M J p r (by omega) (by omega) P (by rw [hM 1 (by unfold scrC; omega)]; exact hP) hP12) mv_X1_countWithout tb_310 (by decide) rfl rfl rfl rfl (by omega) (Nat.le_of_ble_eq_true rfl) dX3_findFor_59 ?_
      refine wl_eqi (y := ffO I P p r) (lessF_congr hp (fun k _ => by rw [hM 7 (by unfold scrC; omega)]) (fun k hk => by unfold vC; rw [hM (33 + k) (by unfold scrC; omega)])) ?_
      refine wl_aload_n hX 0 rfl dX3_findFor_62 ?_
      refine gf_X3_0 hX tb_94 dX3_findFor_63 ?_
      refine gf_X1_6 hX tb_68 dX3_findFor_66 ?_
      refine wl_iload_n hX 1 rfl dX3_findFor_69 ?_
      refine wl_aald4 hX p kc_9 rfl (by omega) dX3_findFor_70 ?_
      refine wl_iload_n hX 2 rfl dX3_findFor_71 ?_
      refine wl_iald hX r (kd_45 (by omega)) rfl (by omega) dX3_findFor_72 ?_
      refine wl_eqi (y := wC I p r) (by rw [hM (45 + p) (by unfold scrC; omega)]; rfl) ?_
      refine wl_cVv hX (c_X3_listChoices hi M J r (ffO I P p r) (wC I p r) (by omega)) mv_X3_listChoices tb_311 (by decide) rfl rfl rfl rfl (by omega) (Nat.le_of_ble_eq_true rfl) dX3_findFor_73 ?_
      refine wl_aload_n hX 0 rfl dX3_findFor_76 ?_
      refine gf_X3_4 hX tb_98 dX3_findFor_77 ?_
      refine wl_iload_n hX 2 rfl dX3_findFor_80 ?_
      refine wl_aload_n hX 0 rfl dX3_findFor_81 ?_
      refine gf_X3_4 hX tb_98 dX3_findFor_82 ?_
      refine wl_iload_n hX 2 rfl dX3_findFor_85 ?_
      refine wl_iconst hX (v := 1) dX3_findFor_86 (by decide) ?_
      refine wl_iadd hX dX3_findFor_87 ?_
      refine wl_eqi (y := nI (r + 1)) (nI_1 r) ?_
      refine wl_iald hX (r + 1) kc_13 rfl (by omega) dX3_findFor_88 ?_
      refine wl_aload_n hX 0 rfl dX3_findFor_89 ?_
      refine gf_X3_3 hX tb_97 dX3_findFor_90 ?_
      refine wl_iload_n hX 2 rfl dX3_findFor_93 ?_
      refine wl_aald4 hX r kc_12 rfl (by omega) dX3_findFor_94 ?_
      refine wl_iconst hX (v := 0) dX3_findFor_95 (by decide) ?_
      refine wl_iald hX 0 (kd_63 (by omega)) (by decide) (by omega) dX3_findFor_96 ?_
      refine wl_iadd hX dX3_findFor_97 ?_
      refine wl_iast hX r kc_13 rfl (by omega) dX3_findFor_98 ?_
      refine wl_iinc hX (v := nI r - 1) (lv' := [(2, .int (nI r - 1)), (0, .ref (ad 2)), (1, .int (nI p))]) 2 rfl (by exact (hx_m1 (nI r))) rfl (by decide) dX3_findFor_99 ?_
      refine wl_goto hX (tgt := 47) dX3_findFor_102 (by decide) ?_
      refine wl_mem (I' := (fs1 M r (ffO I P p r) (wC I p r))) rfl rfl ?_
      refine wl_sub hX [1, 2, 0] rfl ?_
      exact ih _ (by omega) (fun a ha => by rw [fs1_ne (by omega) ha]; exact hM a ha) hg
  exact L Q (ff0 I Q p) (Nat.le_refl _) (fun a ha => ff0_ne ha) hB.symm

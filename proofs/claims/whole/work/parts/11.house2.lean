/-! the house, the second part -/
set_option maxHeartbeats 1000000 in
theorem c_X1_likenessOf {l : Launch} {D : va_G} {ad : Nat → Nat} {cy : Nat → ClassId} (hi : hx_inj ad) (I : MI) (J : MJ) (p r : Nat) (hp : p < 12) (hr : r < 12) (Q : Nat) (hQ : I 1 1 = nI Q) (hQ6 : Q ≤ 6) : Ct l D ad cy yX1_likenessOf cX1_likenessOf 8 (some .int) 1 [.ref (ad 1), .int (nI p), .int (nI r)] I J (hx_is (some (.int (likeF (vC I) Q p r))) I J) := by
  refine ct_start hi (by decide +kernel) (Nat.le_of_ble_eq_true rfl) (fun X hX hT => ?_)
  show X 0 [(0, .ref (ad 1)), (1, .int (nI p)), (2, .int (nI r))] [] I J
  refine wl_aload_n hX 0 rfl dX1_likenessOf_0 ?_
  refine wl_iload_n hX 1 rfl dX1_likenessOf_1 ?_
  refine wl_cVi hX (c_X1_costOf hi I J p hp Q hQ hQ6) mv_X1_costOf tb_455 (by decide) rfl rfl rfl rfl (by omega) (Nat.le_of_ble_eq_true rfl) dX1_likenessOf_2 ?_
  refine wl_i2l hX (v := (costF (vC I) Q p).toInt64) dX1_likenessOf_5 rfl ?_
  refine wl_aload_n hX 0 rfl dX1_likenessOf_6 ?_
  refine wl_iload_n hX 2 rfl dX1_likenessOf_7 ?_
  refine wl_cVi hX (c_X1_costOf hi I J r hr Q hQ hQ6) mv_X1_costOf tb_455 (by decide) rfl rfl rfl rfl (by omega) (Nat.le_of_ble_eq_true rfl) dX1_likenessOf_8 ?_
  refine wl_i2l hX (v := (costF (vC I) Q r).toInt64) dX1_likenessOf_11 rfl ?_
  refine wl_lmul hX dX1_likenessOf_12 ?_
  refine wl_lstore_n hX (lv' := [(3, .long (((costF (vC I) Q p).toInt64) * ((costF (vC I) Q r).toInt64))), (0, .ref (ad 1)), (1, .int (nI p)), (2, .int (nI r))]) rfl (by decide) dX1_likenessOf_13 ?_
  refine wl_lload_n hX 0 rfl dX1_likenessOf_14 ?_
  refine wl_lconst hX (v := 0) dX1_likenessOf_15 (by decide) ?_
  refine wl_lif_ne hX (tgt := 24) dX1_likenessOf_16 dX1_likenessOf_17 (by decide) (fun h1 => ?_) (fun h1 => ?_)
  · refine wl_lconst hX (v := 0) dX1_likenessOf_24 (by decide) ?_
    refine wl_lstore hX (lv' := [(5, .long 0), (3, .long (((costF (vC I) Q p).toInt64) * ((costF (vC I) Q r).toInt64))), (0, .ref (ad 1)), (1, .int (nI p)), (2, .int (nI r))]) rfl (by decide) dX1_likenessOf_25 ?_
    refine wl_iconst hX (v := 0) dX1_likenessOf_27 (by decide) ?_
    refine wl_istore hX (lv' := [(7, .int 0), (5, .long 0), (3, .long (((costF (vC I) Q p).toInt64) * ((costF (vC I) Q r).toInt64))), (0, .ref (ad 1)), (1, .int (nI p)), (2, .int (nI r))]) rfl (by decide) dX1_likenessOf_28 ?_
    refine wl_sub hX [3, 4, 5, 2, 1, 0] rfl ?_
    have L : ∀ (k q : Nat), q ≤ Q → Q - q < k → X 30 [(0, .ref (ad 1)), (1, .int (nI p)), (2, .int (nI r)), (3, .long (((costF (vC I) Q p).toInt64) * ((costF (vC I) Q r).toInt64))), (5, .long (dotF (vC I) q p r)), (7, .int (nI q))] [] I J := by
      intro k
      induction k with
      | zero => exact fun _  _ h => absurd h (Nat.not_lt_zero _)
      | succ k ihL =>
        intro q  hqn hqk
        refine wl_iload hX 5 rfl dX1_likenessOf_30 ?_
        refine wl_aload_n hX 0 rfl dX1_likenessOf_32 ?_
        refine gf_X1_1 hX tb_55 dX1_likenessOf_33 ?_
        refine wl_eqi (y := nI Q) hQ ?_
        refine wl_icmp_ge hX (tgt := 70) dX1_likenessOf_36 (by decide) (fun hqc => ?_) (fun hqc => ?_)
        · have hqe : q = Q := by
            have h9 := (nI_leI (by omega) (by omega)).mp hqc
            omega
          rw [hqe]
          refine wl_lload hX 4 rfl dX1_likenessOf_70 ?_
          refine wl_lload hX 4 rfl dX1_likenessOf_72 ?_
          refine wl_lmul hX dX1_likenessOf_74 ?_
          refine wl_ldc2 hX tb_456 dX1_likenessOf_75 ?_
          refine wl_lmul hX dX1_likenessOf_78 ?_
          refine wl_lload_n hX 3 rfl dX1_likenessOf_79 ?_
          refine wl_ldiv hX dX1_likenessOf_80 h1 ?_
          refine wl_l2i hX (v := ((((dotF (vC I) Q p r) * (dotF (vC I) Q p r)) * 1000) / (((costF (vC I) Q p).toInt64) * ((costF (vC I) Q r).toInt64))).toInt32) dX1_likenessOf_81 rfl ?_
          refine wl_istore hX (lv' := [(7, .int (((((dotF (vC I) Q p r) * (dotF (vC I) Q p r)) * 1000) / (((costF (vC I) Q p).toInt64) * ((costF (vC I) Q r).toInt64))).toInt32)), (0, .ref (ad 1)), (1, .int (nI p)), (2, .int (nI r)), (3, .long (((costF (vC I) Q p).toInt64) * ((costF (vC I) Q r).toInt64))), (5, .long (dotF (vC I) Q p r))]) rfl (by decide) dX1_likenessOf_82 ?_
          refine wl_lload hX 5 rfl dX1_likenessOf_84 ?_
          refine wl_lconst hX (v := 0) dX1_likenessOf_86 (by decide) ?_
          refine wl_lif_ge hX (tgt := 97) dX1_likenessOf_87 dX1_likenessOf_88 (by decide) (fun h5 => ?_) (fun h5 => ?_)
          · refine wl_iload hX 0 rfl dX1_likenessOf_97 ?_
            exact wl_ireturn hT dX1_likenessOf_99 (hx_ri (by unfold likeF; rw [if_neg h1, if_pos h5]))
          · refine wl_iload hX 0 rfl dX1_likenessOf_91 ?_
            refine wl_ineg hX dX1_likenessOf_93 ?_
            refine wl_goto hX (tgt := 99) dX1_likenessOf_94 (by decide) ?_
            exact wl_ireturn hT dX1_likenessOf_99 (hx_ri (by unfold likeF; rw [if_neg h1, if_neg h5]))
        · have hq1 : q < Q := Nat.lt_of_not_le (fun z => hqc ((nI_leI (by omega) (by omega)).mpr z))
          refine wl_lload hX 4 rfl dX1_likenessOf_39 ?_
          refine wl_aload_n hX 0 rfl dX1_likenessOf_41 ?_
          refine gf_X1_5 hX tb_64 dX1_likenessOf_42 ?_
          refine wl_iload_n hX 1 rfl dX1_likenessOf_45 ?_
          refine wl_aald4 hX p kc_8 rfl (by omega) dX1_likenessOf_46 ?_
          refine wl_iload hX 5 rfl dX1_likenessOf_47 ?_
          refine wl_iald hX q (kd_33 (by omega)) rfl (by omega) dX1_likenessOf_49 ?_
          refine wl_aload_n hX 0 rfl dX1_likenessOf_50 ?_
          refine gf_X1_5 hX tb_64 dX1_likenessOf_51 ?_
          refine wl_iload_n hX 2 rfl dX1_likenessOf_54 ?_
          refine wl_aald4 hX r kc_8 rfl (by omega) dX1_likenessOf_55 ?_
          refine wl_iload hX 5 rfl dX1_likenessOf_56 ?_
          refine wl_iald hX q (kd_33 (by omega)) rfl (by omega) dX1_likenessOf_58 ?_
          refine wl_imul hX dX1_likenessOf_59 ?_
          refine wl_i2l hX (v := ((I (33 + p) q) * (I (33 + r) q)).toInt64) dX1_likenessOf_60 rfl ?_
          refine wl_ladd hX dX1_likenessOf_61 ?_
          refine wl_lstore hX (lv' := [(5, .long ((dotF (vC I) q p r) + (((I (33 + p) q) * (I (33 + r) q)).toInt64))), (0, .ref (ad 1)), (1, .int (nI p)), (2, .int (nI r)), (3, .long (((costF (vC I) Q p).toInt64) * ((costF (vC I) Q r).toInt64))), (7, .int (nI q))]) rfl (by decide) dX1_likenessOf_62 ?_
          refine wl_iinc hX (v := nI (q + 1)) (lv' := [(7, .int (nI (q + 1))), (5, .long ((dotF (vC I) q p r) + (((I (33 + p) q) * (I (33 + r) q)).toInt64))), (0, .ref (ad 1)), (1, .int (nI p)), (2, .int (nI r)), (3, .long (((costF (vC I) Q p).toInt64) * ((costF (vC I) Q r).toInt64)))]) 5 rfl (nI_1 _) rfl (by decide) dX1_likenessOf_64 ?_
          refine wl_goto hX (tgt := 30) dX1_likenessOf_67 (by decide) ?_
          refine wl_sub hX [2, 3, 4, 5, 1, 0] rfl ?_
          exact ihL (q + 1) (by omega) (by omega)
    exact L (Q + 1) 0 (by omega) (by omega)
  · refine wl_sipush hX (v := (-2000)) dX1_likenessOf_20 (by decide) ?_
    exact wl_ireturn hT dX1_likenessOf_23 (hx_ri (by unfold likeF; rw [if_pos h1]))

set_option maxHeartbeats 1000000 in
theorem c_X1_alikeTo {l : Launch} {D : va_G} {ad : Nat → Nat} {cy : Nat → ClassId} (hi : hx_inj ad) (I : MI) (J : MJ) (p : Nat) (t : Int32) (hp : p < 12) (P : Nat) (hP : I 1 0 = nI P) (hP12 : P ≤ 12) (Q : Nat) (hQ : I 1 1 = nI Q) (hQ6 : Q ≤ 6) : Ct l D ad cy yX1_alikeTo cX1_alikeTo 5 (some .int) 2 [.ref (ad 1), .int (nI p), .int t] I J (hx_is (some (.int (alikeF (vC I) Q t p P))) I J) := by
  refine ct_start hi (by decide +kernel) (Nat.le_of_ble_eq_true rfl) (fun X hX hT => ?_)
  show X 0 [(0, .ref (ad 1)), (1, .int (nI p)), (2, .int t)] [] I J
  refine wl_iconst hX (v := 0) dX1_alikeTo_0 (by decide) ?_
  refine wl_istore_n hX (lv' := [(3, .int 0), (0, .ref (ad 1)), (1, .int (nI p)), (2, .int t)]) rfl (by decide) dX1_alikeTo_1 ?_
  refine wl_iconst hX (v := 0) dX1_alikeTo_2 (by decide) ?_
  refine wl_istore hX (lv' := [(4, .int 0), (3, .int 0), (0, .ref (ad 1)), (1, .int (nI p)), (2, .int t)]) rfl (by decide) dX1_alikeTo_3 ?_
  refine wl_sub hX [2, 3, 4, 1, 0] rfl ?_
  have L : ∀ (k r : Nat), r ≤ P → P - r < k → X 5 [(0, .ref (ad 1)), (1, .int (nI p)), (2, .int t), (3, .int (alikeF (vC I) Q t p r)), (4, .int (nI r))] [] I J := by
    intro k
    induction k with
    | zero => exact fun _  _ h => absurd h (Nat.not_lt_zero _)
    | succ k ihL =>
      intro r  hrn hrk
      refine wl_iload hX 4 rfl dX1_alikeTo_5 ?_
      refine wl_aload_n hX 0 rfl dX1_alikeTo_7 ?_
      refine gf_X1_0 hX tb_49 dX1_alikeTo_8 ?_
      refine wl_eqi (y := nI P) hP ?_
      refine wl_icmp_ge hX (tgt := 38) dX1_alikeTo_11 (by decide) (fun hrc => ?_) (fun hrc => ?_)
      · have hre : r = P := by
          have h9 := (nI_leI (by omega) (by omega)).mp hrc
          omega
        refine wl_iload_n hX 3 rfl dX1_alikeTo_38 ?_
        exact wl_ireturn hT dX1_alikeTo_39 (hx_ri (by rw [hre]))
      · have hr1 : r < P := Nat.lt_of_not_le (fun z => hrc ((nI_leI (by omega) (by omega)).mpr z))
        refine wl_aload_n hX 0 rfl dX1_alikeTo_14 ?_
        refine wl_iload_n hX 1 rfl dX1_alikeTo_15 ?_
        refine wl_iload hX 4 rfl dX1_alikeTo_16 ?_
        refine wl_cVi hX (c_X1_likenessOf hi I J p r hp (by omega) Q hQ hQ6) mv_X1_likenessOf tb_469 (by decide) rfl rfl rfl rfl (by omega) (Nat.le_of_ble_eq_true rfl) dX1_alikeTo_18 ?_
        refine wl_iload_n hX 2 rfl dX1_alikeTo_21 ?_
        have e2 : alikeF (vC I) Q t p (r + 1) = alikeF (vC I) Q t p r ||| (if likeF (vC I) Q p r < t then (0 : Int32) else 1 <<< (nI r &&& 31)) := rfl
        refine wl_icmp_lt hX (tgt := 32) dX1_alikeTo_22 (by decide) (fun h2 => ?_) (fun h2 => ?_)
        · rw [if_pos h2, i_or0] at e2
          rw [← e2]
          refine wl_iinc hX (v := nI (r + 1)) (lv' := [(4, .int (nI (r + 1))), (0, .ref (ad 1)), (1, .int (nI p)), (2, .int t), (3, .int (alikeF (vC I) Q t p (r + 1)))]) 4 rfl (nI_1 _) rfl (by decide) dX1_alikeTo_32 ?_
          refine wl_goto hX (tgt := 5) dX1_alikeTo_35 (by decide) ?_
          refine wl_sub hX [1, 2, 3, 4, 0] rfl ?_
          exact ihL (r + 1) (by omega) (by omega)
        · rw [if_neg h2] at e2
          refine wl_iload_n hX 3 rfl dX1_alikeTo_25 ?_
          refine wl_iconst hX (v := 1) dX1_alikeTo_26 (by decide) ?_
          refine wl_iload hX 4 rfl dX1_alikeTo_27 ?_
          refine wl_ishl hX dX1_alikeTo_29 ?_
          refine wl_ior hX dX1_alikeTo_30 ?_
          refine wl_eqi (y := alikeF (vC I) Q t p (r + 1)) e2.symm ?_
          refine wl_istore_n hX (lv' := [(3, .int (alikeF (vC I) Q t p (r + 1))), (0, .ref (ad 1)), (1, .int (nI p)), (2, .int t), (4, .int (nI r))]) rfl (by decide) dX1_alikeTo_31 ?_
          refine wl_iinc hX (v := nI (r + 1)) (lv' := [(4, .int (nI (r + 1))), (3, .int (alikeF (vC I) Q t p (r + 1))), (0, .ref (ad 1)), (1, .int (nI p)), (2, .int t)]) 4 rfl (nI_1 _) rfl (by decide) dX1_alikeTo_32 ?_
          refine wl_goto hX (tgt := 5) dX1_alikeTo_35 (by decide) ?_
          refine wl_sub hX [2, 3, 4, 1, 0] rfl ?_
          exact ihL (r + 1) (by omega) (by omega)
  exact L (P + 1) 0 (by omega) (by omega)

set_option maxHeartbeats 1000000 in
theorem c_X1_groupOf {l : Launch} {D : va_G} {ad : Nat → Nat} {cy : Nat → ClassId} (hi : hx_inj ad) (I : MI) (J : MJ) (p : Nat) (t : Int32) (hp : p < 12) (P : Nat) (hP : I 1 0 = nI P) (hP12 : P ≤ 12) (Q : Nat) (hQ : I 1 1 = nI Q) (hQ6 : Q ≤ 6) : Ct l D ad cy yX1_groupOf cX1_groupOf 7 (some .int) 3 [.ref (ad 1), .int (nI p), .int t] I J (hx_is (some (.int (grF (alF (vC I) Q P t) P P (1 <<< (nI p &&& 31)) 0))) I J) := by
  refine ct_start hi (by decide +kernel) (Nat.le_of_ble_eq_true rfl) (fun X hX hT => ?_)
  show X 0 [(0, .ref (ad 1)), (1, .int (nI p)), (2, .int t)] [] I J
  refine wl_iconst hX (v := 1) dX1_groupOf_0 (by decide) ?_
  refine wl_iload_n hX 1 rfl dX1_groupOf_1 ?_
  refine wl_ishl hX dX1_groupOf_2 ?_
  refine wl_istore_n hX (lv' := [(3, .int (1 <<< (nI p &&& 31))), (0, .ref (ad 1)), (1, .int (nI p)), (2, .int t)]) rfl (by decide) dX1_groupOf_3 ?_
  refine wl_iconst hX (v := 0) dX1_groupOf_4 (by decide) ?_
  refine wl_istore hX (lv' := [(4, .int 0), (3, .int (1 <<< (nI p &&& 31))), (0, .ref (ad 1)), (1, .int (nI p)), (2, .int t)]) rfl (by decide) dX1_groupOf_5 ?_
  refine wl_iconst hX (v := 0) dX1_groupOf_7 (by decide) ?_
  refine wl_istore hX (lv' := [(5, .int 0), (4, .int 0), (3, .int (1 <<< (nI p &&& 31))), (0, .ref (ad 1)), (1, .int (nI p)), (2, .int t)]) rfl (by decide) dX1_groupOf_8 ?_
  refine wl_sub hX [3, 4, 5, 2, 1, 0] rfl ?_
  obtain ⟨res, hres⟩ : ∃ z : Int32, z = grF (alF (vC I) Q P t) P P (1 <<< (nI p &&& 31)) 0 := ⟨_, rfl⟩
  rw [← hres] at hT
  have L : ∀ (m : Nat) (x b : Int32), m ≤ P → grF (alF (vC I) Q P t) P m x b = res → X 10 [(0, .ref (ad 1)), (1, .int (nI p)), (2, .int t), (3, .int x), (4, .int b), (5, .int (nI (P - m)))] [] I J := by
    intro m
    induction m with
    | zero =>
      intro x b hm hg
      refine wl_iload hX 5 rfl dX1_groupOf_10 ?_
      refine wl_aload_n hX 0 rfl dX1_groupOf_12 ?_
      refine gf_X1_0 hX tb_49 dX1_groupOf_13 ?_
      refine wl_eqi (y := nI P) hP ?_
      refine wl_icmp_ge hX (tgt := 72) dX1_groupOf_16 (by decide) (fun h9 => ?_) (fun h9 => absurd ((nI_leI (by omega) (by omega)).mpr (by omega)) h9)
      refine wl_iload_n hX 3 rfl dX1_groupOf_72 ?_
      exact wl_ireturn hT dX1_groupOf_73 (hx_ri hg)
    | succ m ih =>
      intro x b hm hg
      refine wl_iload hX 5 rfl dX1_groupOf_10 ?_
      refine wl_aload_n hX 0 rfl dX1_groupOf_12 ?_
      refine gf_X1_0 hX tb_49 dX1_groupOf_13 ?_
      refine wl_eqi (y := nI P) hP ?_
      refine wl_icmp_ge hX (tgt := 72) dX1_groupOf_16 (by decide) (fun h9 => absurd h9 (fun z => absurd ((nI_leI (by omega) (by omega)).mp z) (by omega))) (fun h9 => ?_)
      have hg2 : (if x = b then x else grF (alF (vC I) Q P t) P m (passF (alF (vC I) Q P t) P x) x) = res := hg
      refine wl_iload_n hX 3 rfl dX1_groupOf_19 ?_
      refine wl_iload hX 4 rfl dX1_groupOf_20 ?_
      refine wl_icmp_eq hX (tgt := 72) dX1_groupOf_22 (by decide) (fun h2 => ?_) (fun h2 => ?_)
      · refine wl_iload_n hX 3 rfl dX1_groupOf_72 ?_
        exact wl_ireturn hT dX1_groupOf_73 (hx_ri (by rw [← hg2, if_pos h2]))
      · rw [if_neg h2] at hg2
        refine wl_iload_n hX 3 rfl dX1_groupOf_25 ?_
        refine wl_istore hX (lv' := [(4, .int x), (0, .ref (ad 1)), (1, .int (nI p)), (2, .int t), (3, .int x), (5, .int (nI (P - (m + 1))))]) rfl (by decide) dX1_groupOf_26 ?_
        refine wl_iconst hX (v := 0) dX1_groupOf_28 (by decide) ?_
        refine wl_istore hX (lv' := [(6, .int 0), (4, .int x), (0, .ref (ad 1)), (1, .int (nI p)), (2, .int t), (3, .int x), (5, .int (nI (P - (m + 1))))]) rfl (by decide) dX1_groupOf_29 ?_
        refine wl_sub hX [2, 3, 4, 5, 1, 6, 0] rfl ?_
        have M : ∀ (k a : Nat), a ≤ P → P - a < k → X 31 [(0, .ref (ad 1)), (1, .int (nI p)), (2, .int t), (3, .int (passF (alF (vC I) Q P t) a x)), (4, .int x), (5, .int (nI (P - (m + 1)))), (6, .int (nI a))] [] I J := by
          intro k
          induction k with
          | zero => exact fun _  _ h => absurd h (Nat.not_lt_zero _)
          | succ k ihM =>
            intro a  han hak
            refine wl_iload hX 6 rfl dX1_groupOf_31 ?_
            refine wl_aload_n hX 0 rfl dX1_groupOf_33 ?_
            refine gf_X1_0 hX tb_49 dX1_groupOf_34 ?_
            refine wl_eqi (y := nI P) hP ?_
            refine wl_icmp_ge hX (tgt := 66) dX1_groupOf_37 (by decide) (fun hac => ?_) (fun hac => ?_)
            · have hae : a = P := by
                have h9 := (nI_leI (by omega) (by omega)).mp hac
                omega
              rw [hae]
              refine wl_iinc hX (v := nI (P - m)) (lv' := [(5, .int (nI (P - m))), (0, .ref (ad 1)), (1, .int (nI p)), (2, .int t), (3, .int (passF (alF (vC I) Q P t) P x)), (4, .int x), (6, .int (nI P))]) 5 rfl (by exact ((nI_1 _).trans (by rw [show P - (m + 1) + 1 = P - m by omega]))) rfl (by decide) dX1_groupOf_66 ?_
              refine wl_goto hX (tgt := 10) dX1_groupOf_69 (by decide) ?_
              refine wl_sub hX [1, 2, 3, 4, 5, 0] rfl ?_
              exact ih _ _ (by omega) hg2
            · have ha1 : a < P := Nat.lt_of_not_le (fun z => hac ((nI_leI (by omega) (by omega)).mpr z))
              have e2 : passF (alF (vC I) Q P t) (a + 1) x = if (passF (alF (vC I) Q P t) a x >>> (nI a &&& 31)) &&& 1 = 1 then passF (alF (vC I) Q P t) a x ||| alikeF (vC I) Q t a P else passF (alF (vC I) Q P t) a x := rfl
              refine wl_iload_n hX 3 rfl dX1_groupOf_40 ?_
              refine wl_iload hX 6 rfl dX1_groupOf_41 ?_
              refine wl_ishr hX dX1_groupOf_43 ?_
              refine wl_iconst hX (v := 1) dX1_groupOf_44 (by decide) ?_
              refine wl_iand hX dX1_groupOf_45 ?_
              refine wl_iconst hX (v := 1) dX1_groupOf_46 (by decide) ?_
              refine wl_icmp_ne hX (tgt := 60) dX1_groupOf_47 (by decide) (fun h5 => ?_) (fun h5 => ?_)
              · rw [if_neg h5] at e2
                rw [← e2]
                refine wl_iinc hX (v := nI (a + 1)) (lv' := [(6, .int (nI (a + 1))), (0, .ref (ad 1)), (1, .int (nI p)), (2, .int t), (3, .int (passF (alF (vC I) Q P t) (a + 1) x)), (4, .int x), (5, .int (nI (P - (m + 1))))]) 6 rfl (nI_1 _) rfl (by decide) dX1_groupOf_60 ?_
                refine wl_goto hX (tgt := 31) dX1_groupOf_63 (by decide) ?_
                refine wl_sub hX [1, 2, 3, 4, 5, 6, 0] rfl ?_
                exact ihM (a + 1) (by omega) (by omega)
              · rw [if_pos h5] at e2
                refine wl_iload_n hX 3 rfl dX1_groupOf_50 ?_
                refine wl_aload_n hX 0 rfl dX1_groupOf_51 ?_
                refine wl_iload hX 6 rfl dX1_groupOf_52 ?_
                refine wl_iload_n hX 2 rfl dX1_groupOf_54 ?_
                refine wl_cVi hX (c_X1_alikeTo hi I J a t (by omega) P hP hP12 Q hQ hQ6) mv_X1_alikeTo tb_465 (by decide) rfl rfl rfl rfl (by omega) (Nat.le_of_ble_eq_true rfl) dX1_groupOf_55 ?_
                refine wl_ior hX dX1_groupOf_58 ?_
                refine wl_eqi (y := passF (alF (vC I) Q P t) (a + 1) x) e2.symm ?_
                refine wl_istore_n hX (lv' := [(3, .int (passF (alF (vC I) Q P t) (a + 1) x)), (0, .ref (ad 1)), (1, .int (nI p)), (2, .int t), (4, .int x), (5, .int (nI (P - (m + 1)))), (6, .int (nI a))]) rfl (by decide) dX1_groupOf_59 ?_
                refine wl_iinc hX (v := nI (a + 1)) (lv' := [(6, .int (nI (a + 1))), (3, .int (passF (alF (vC I) Q P t) (a + 1) x)), (0, .ref (ad 1)), (1, .int (nI p)), (2, .int t), (4, .int x), (5, .int (nI (P - (m + 1))))]) 6 rfl (nI_1 _) rfl (by decide) dX1_groupOf_60 ?_
                refine wl_goto hX (tgt := 31) dX1_groupOf_63 (by decide) ?_
                refine wl_sub hX [2, 3, 4, 1, 5, 6, 0] rfl ?_
                exact ihM (a + 1) (by omega) (by omega)
        exact M (P + 1) 0 (by omega) (by omega)
  have h0 : nI (P - P) = 0 := by rw [Nat.sub_self]; exact nI_0
  have L0 := L P (1 <<< (nI p &&& 31)) 0 (Nat.le_refl _) hres.symm
  rw [h0] at L0
  exact L0

set_option maxHeartbeats 1000000 in
theorem c_X1_voicesInOne {l : Launch} {D : va_G} {ad : Nat → Nat} {cy : Nat → ClassId} (hi : hx_inj ad) (I : MI) (J : MJ) (p : Nat) (hp : p < 12) (Q : Nat) (hQ : I 1 1 = nI Q) (hQ6 : Q ≤ 6) : Ct l D ad cy yX1_voicesInOne cX1_voicesInOne 5 (some .long) 0 [.ref (ad 1), .int (nI p)] I J (hx_is (some (.long (codeF (vC I) p Q))) I J) := by
  refine ct_start hi (by decide +kernel) (Nat.le_of_ble_eq_true rfl) (fun X hX hT => ?_)
  show X 0 [(0, .ref (ad 1)), (1, .int (nI p))] [] I J
  refine wl_lconst hX (v := 0) dX1_voicesInOne_0 (by decide) ?_
  refine wl_lstore_n hX (lv' := [(2, .long 0), (0, .ref (ad 1)), (1, .int (nI p))]) rfl (by decide) dX1_voicesInOne_1 ?_
  refine wl_iconst hX (v := 0) dX1_voicesInOne_2 (by decide) ?_
  refine wl_istore hX (lv' := [(4, .int 0), (2, .long 0), (0, .ref (ad 1)), (1, .int (nI p))]) rfl (by decide) dX1_voicesInOne_3 ?_
  refine wl_sub hX [2, 3, 1, 0] rfl ?_
  have L : ∀ (k q : Nat), q ≤ Q → Q - q < k → X 5 [(0, .ref (ad 1)), (1, .int (nI p)), (2, .long (codeF (vC I) p q)), (4, .int (nI q))] [] I J := by
    intro k
    induction k with
    | zero => exact fun _  _ h => absurd h (Nat.not_lt_zero _)
    | succ k ihL =>
      intro q  hqn hqk
      refine wl_iload hX 3 rfl dX1_voicesInOne_5 ?_
      refine wl_aload_n hX 0 rfl dX1_voicesInOne_7 ?_
      refine gf_X1_1 hX tb_55 dX1_voicesInOne_8 ?_
      refine wl_eqi (y := nI Q) hQ ?_
      refine wl_icmp_ge hX (tgt := 41) dX1_voicesInOne_11 (by decide) (fun hqc => ?_) (fun hqc => ?_)
      · have hqe : q = Q := by
          have h9 := (nI_leI (by omega) (by omega)).mp hqc
          omega
        refine wl_lload_n hX 2 rfl dX1_voicesInOne_41 ?_
        exact wl_lreturn hT dX1_voicesInOne_42 (hx_rl (by rw [hqe]))
      · have hq1 : q < Q := Nat.lt_of_not_le (fun z => hqc ((nI_leI (by omega) (by omega)).mpr z))
        refine wl_lload_n hX 2 rfl dX1_voicesInOne_14 ?_
        refine wl_ldc2 hX tb_362 dX1_voicesInOne_15 ?_
        refine wl_lmul hX dX1_voicesInOne_18 ?_
        refine wl_aload_n hX 0 rfl dX1_voicesInOne_19 ?_
        refine gf_X1_5 hX tb_64 dX1_voicesInOne_20 ?_
        refine wl_iload_n hX 1 rfl dX1_voicesInOne_23 ?_
        refine wl_aald4 hX p kc_8 rfl (by omega) dX1_voicesInOne_24 ?_
        refine wl_iload hX 3 rfl dX1_voicesInOne_25 ?_
        refine wl_iald hX q (kd_33 (by omega)) rfl (by omega) dX1_voicesInOne_27 ?_
        refine wl_i2l hX (v := (I (33 + p) q).toInt64) dX1_voicesInOne_28 rfl ?_
        refine wl_ladd hX dX1_voicesInOne_29 ?_
        refine wl_ldc2 hX tb_363 dX1_voicesInOne_30 ?_
        refine wl_ladd hX dX1_voicesInOne_33 ?_
        refine wl_lstore_n hX (lv' := [(2, .long ((((codeF (vC I) p q) * 81) + ((I (33 + p) q).toInt64)) + 40)), (0, .ref (ad 1)), (1, .int (nI p)), (4, .int (nI q))]) rfl (by decide) dX1_voicesInOne_34 ?_
        refine wl_iinc hX (v := nI (q + 1)) (lv' := [(4, .int (nI (q + 1))), (2, .long ((((codeF (vC I) p q) * 81) + ((I (33 + p) q).toInt64)) + 40)), (0, .ref (ad 1)), (1, .int (nI p))]) 3 rfl (nI_1 _) rfl (by decide) dX1_voicesInOne_35 ?_
        refine wl_goto hX (tgt := 5) dX1_voicesInOne_38 (by decide) ?_
        refine wl_sub hX [2, 3, 1, 0] rfl ?_
        exact ihL (q + 1) (by omega) (by omega)
  exact L (Q + 1) 0 (by omega) (by omega)

set_option maxHeartbeats 1000000 in
theorem c_X1_digestPerson {l : Launch} {D : va_G} {ad : Nat → Nat} {cy : Nat → ClassId} (hi : hx_inj ad) (I : MI) (J : MJ) (z : Int64) (p : Nat) (hp : p < 12) (Q : Nat) (hQ : I 1 1 = nI Q) (hQ6 : Q ≤ 6) : Ct l D ad cy yX1_digestPerson cX1_digestPerson 7 (some .long) 0 [.ref (ad 1), .long z, .int (nI p)] I J (hx_is (some (.long (dgHF (I 6 p) (I 7 p) (vC I p) (wC I p) Q z))) I J) := by
  refine ct_start hi (by decide +kernel) (Nat.le_of_ble_eq_true rfl) (fun X hX hT => ?_)
  show X 0 [(0, .ref (ad 1)), (1, .long z), (3, .int (nI p))] [] I J
  refine wl_ldc2 hX tb_487 dX1_digestPerson_0 ?_
  refine wl_lload_n hX 1 rfl dX1_digestPerson_3 ?_
  refine wl_lmul hX dX1_digestPerson_4 ?_
  refine wl_aload_n hX 0 rfl dX1_digestPerson_5 ?_
  refine gf_X1_3 hX tb_58 dX1_digestPerson_6 ?_
  refine wl_iload_n hX 2 rfl dX1_digestPerson_9 ?_
  refine wl_iald hX p kc_6 rfl (by omega) dX1_digestPerson_10 ?_
  refine wl_i2l hX (v := (I 6 p).toInt64) dX1_digestPerson_11 rfl ?_
  refine wl_ladd hX dX1_digestPerson_12 ?_
  refine wl_lstore hX (lv' := [(4, .long ((31 * z) + ((I 6 p).toInt64))), (0, .ref (ad 1)), (1, .long z), (3, .int (nI p))]) rfl (by decide) dX1_digestPerson_13 ?_
  refine wl_ldc2 hX tb_487 dX1_digestPerson_15 ?_
  refine wl_lload hX 0 rfl dX1_digestPerson_18 ?_
  refine wl_lmul hX dX1_digestPerson_20 ?_
  refine wl_aload_n hX 1 rfl dX1_digestPerson_21 ?_
  refine gf_X1_4 hX tb_61 dX1_digestPerson_22 ?_
  refine wl_iload_n hX 3 rfl dX1_digestPerson_25 ?_
  refine wl_zald hX p kc_7 rfl (by omega) dX1_digestPerson_26 ?_
  have K : X 35 [(4, .long ((31 * z) + ((I 6 p).toInt64))), (0, .ref (ad 1)), (1, .long z), (3, .int (nI p))] [.int (onF (I 7 p)), .long (31 * ((31 * z) + ((I 6 p).toInt64)))] I J := by
    refine wl_i2l hX (v := (onF (I 7 p)).toInt64) dX1_digestPerson_35 rfl ?_
    refine wl_ladd hX dX1_digestPerson_36 ?_
    refine wl_lstore hX (lv' := [(4, .long ((31 * ((31 * z) + ((I 6 p).toInt64))) + ((onF (I 7 p)).toInt64))), (0, .ref (ad 1)), (1, .long z), (3, .int (nI p))]) rfl (by decide) dX1_digestPerson_37 ?_
    refine wl_iconst hX (v := 0) dX1_digestPerson_39 (by decide) ?_
    refine wl_istore hX (lv' := [(6, .int 0), (4, .long ((31 * ((31 * z) + ((I 6 p).toInt64))) + ((onF (I 7 p)).toInt64))), (0, .ref (ad 1)), (1, .long z), (3, .int (nI p))]) rfl (by decide) dX1_digestPerson_40 ?_
    refine wl_sub hX [2, 3, 4, 1, 0] rfl ?_
    have L : ∀ (k q : Nat), q ≤ Q → Q - q < k → X 42 [(0, .ref (ad 1)), (1, .long z), (3, .int (nI p)), (4, .long (chF (vC I p) q (31 * (31 * z + (I 6 p).toInt64) + (onF (I 7 p)).toInt64))), (6, .int (nI q))] [] I J := by
      intro k
      induction k with
      | zero => exact fun _  _ h => absurd h (Nat.not_lt_zero _)
      | succ k ihL =>
        intro q  hqn hqk
        refine wl_iload hX 4 rfl dX1_digestPerson_42 ?_
        refine wl_aload_n hX 0 rfl dX1_digestPerson_44 ?_
        refine gf_X1_1 hX tb_55 dX1_digestPerson_45 ?_
        refine wl_eqi (y := nI Q) hQ ?_
        refine wl_icmp_ge hX (tgt := 76) dX1_digestPerson_48 (by decide) (fun hqc => ?_) (fun hqc => ?_)
        · have hqe : q = Q := by
            have h9 := (nI_leI (by omega) (by omega)).mp hqc
            omega
          rw [hqe]
          refine wl_iconst hX (v := 0) dX1_digestPerson_76 (by decide) ?_
          refine wl_istore hX (lv' := [(6, .int 0), (0, .ref (ad 1)), (1, .long z), (3, .int (nI p)), (4, .long (chF (vC I p) Q (31 * (31 * z + (I 6 p).toInt64) + (onF (I 7 p)).toInt64)))]) rfl (by decide) dX1_digestPerson_77 ?_
          refine wl_sub hX [1, 2, 3, 4, 0] rfl ?_
          have M : ∀ (k r : Nat), r ≤ Q → Q - r < k → X 79 [(0, .ref (ad 1)), (1, .long z), (3, .int (nI p)), (4, .long (chF (wC I p) r (chF (vC I p) Q (31 * (31 * z + (I 6 p).toInt64) + (onF (I 7 p)).toInt64)))), (6, .int (nI r))] [] I J := by
            intro k
            induction k with
            | zero => exact fun _  _ h => absurd h (Nat.not_lt_zero _)
            | succ k ihM =>
              intro r  hrn hrk
              refine wl_iload hX 4 rfl dX1_digestPerson_79 ?_
              refine wl_aload_n hX 0 rfl dX1_digestPerson_81 ?_
              refine gf_X1_1 hX tb_55 dX1_digestPerson_82 ?_
              refine wl_eqi (y := nI Q) hQ ?_
              refine wl_icmp_ge hX (tgt := 113) dX1_digestPerson_85 (by decide) (fun hrc => ?_) (fun hrc => ?_)
              · have hre : r = Q := by
                  have h9 := (nI_leI (by omega) (by omega)).mp hrc
                  omega
                refine wl_lload hX 3 rfl dX1_digestPerson_113 ?_
                exact wl_lreturn hT dX1_digestPerson_115 (hx_rl (by rw [hre]; rfl))
              · have hr1 : r < Q := Nat.lt_of_not_le (fun z => hrc ((nI_leI (by omega) (by omega)).mpr z))
                refine wl_ldc2 hX tb_487 dX1_digestPerson_88 ?_
                refine wl_lload hX 3 rfl dX1_digestPerson_91 ?_
                refine wl_lmul hX dX1_digestPerson_93 ?_
                refine wl_aload_n hX 0 rfl dX1_digestPerson_94 ?_
                refine gf_X1_6 hX tb_67 dX1_digestPerson_95 ?_
                refine wl_iload_n hX 2 rfl dX1_digestPerson_98 ?_
                refine wl_aald4 hX p kc_9 rfl (by omega) dX1_digestPerson_99 ?_
                refine wl_iload hX 4 rfl dX1_digestPerson_100 ?_
                refine wl_iald hX r (kd_45 (by omega)) rfl (by omega) dX1_digestPerson_102 ?_
                refine wl_i2l hX (v := (I (45 + p) r).toInt64) dX1_digestPerson_103 rfl ?_
                refine wl_ladd hX dX1_digestPerson_104 ?_
                refine wl_lstore hX (lv' := [(4, .long ((31 * (chF (wC I p) r (chF (vC I p) Q (31 * (31 * z + (I 6 p).toInt64) + (onF (I 7 p)).toInt64)))) + ((I (45 + p) r).toInt64))), (0, .ref (ad 1)), (1, .long z), (3, .int (nI p)), (6, .int (nI r))]) rfl (by decide) dX1_digestPerson_105 ?_
                refine wl_iinc hX (v := nI (r + 1)) (lv' := [(6, .int (nI (r + 1))), (4, .long ((31 * (chF (wC I p) r (chF (vC I p) Q (31 * (31 * z + (I 6 p).toInt64) + (onF (I 7 p)).toInt64)))) + ((I (45 + p) r).toInt64))), (0, .ref (ad 1)), (1, .long z), (3, .int (nI p))]) 4 rfl (nI_1 _) rfl (by decide) dX1_digestPerson_107 ?_
                refine wl_goto hX (tgt := 79) dX1_digestPerson_110 (by decide) ?_
                refine wl_sub hX [2, 3, 4, 1, 0] rfl ?_
                exact ihM (r + 1) (by omega) (by omega)
          exact M (Q + 1) 0 (by omega) (by omega)
        · have hq1 : q < Q := Nat.lt_of_not_le (fun z => hqc ((nI_leI (by omega) (by omega)).mpr z))
          refine wl_ldc2 hX tb_487 dX1_digestPerson_51 ?_
          refine wl_lload hX 3 rfl dX1_digestPerson_54 ?_
          refine wl_lmul hX dX1_digestPerson_56 ?_
          refine wl_aload_n hX 0 rfl dX1_digestPerson_57 ?_
          refine gf_X1_5 hX tb_64 dX1_digestPerson_58 ?_
          refine wl_iload_n hX 2 rfl dX1_digestPerson_61 ?_
          refine wl_aald4 hX p kc_8 rfl (by omega) dX1_digestPerson_62 ?_
          refine wl_iload hX 4 rfl dX1_digestPerson_63 ?_
          refine wl_iald hX q (kd_33 (by omega)) rfl (by omega) dX1_digestPerson_65 ?_
          refine wl_i2l hX (v := (I (33 + p) q).toInt64) dX1_digestPerson_66 rfl ?_
          refine wl_ladd hX dX1_digestPerson_67 ?_
          refine wl_lstore hX (lv' := [(4, .long ((31 * (chF (vC I p) q (31 * (31 * z + (I 6 p).toInt64) + (onF (I 7 p)).toInt64))) + ((I (33 + p) q).toInt64))), (0, .ref (ad 1)), (1, .long z), (3, .int (nI p)), (6, .int (nI q))]) rfl (by decide) dX1_digestPerson_68 ?_
          refine wl_iinc hX (v := nI (q + 1)) (lv' := [(6, .int (nI (q + 1))), (4, .long ((31 * (chF (vC I p) q (31 * (31 * z + (I 6 p).toInt64) + (onF (I 7 p)).toInt64))) + ((I (33 + p) q).toInt64))), (0, .ref (ad 1)), (1, .long z), (3, .int (nI p))]) 4 rfl (nI_1 _) rfl (by decide) dX1_digestPerson_70 ?_
          refine wl_goto hX (tgt := 42) dX1_digestPerson_73 (by decide) ?_
          refine wl_sub hX [2, 3, 4, 1, 0] rfl ?_
          exact ihL (q + 1) (by omega) (by omega)
    exact L (Q + 1) 0 (by omega) (by omega)
  refine wl_if_eq hX (tgt := 34) dX1_digestPerson_27 (by decide) (fun h1 => ?_) (fun h1 => ?_)
  · refine wl_iconst hX (v := 0) dX1_digestPerson_34 (by decide) ?_
    refine wl_eqi (y := onF (I 7 p)) (by unfold onF; rw [if_pos h1]) ?_
    exact K
  · refine wl_iconst hX (v := 1) dX1_digestPerson_30 (by decide) ?_
    refine wl_goto hX (tgt := 35) dX1_digestPerson_31 (by decide) ?_
    refine wl_eqi (y := onF (I 7 p)) (by unfold onF; rw [if_neg h1]) ?_
    exact K

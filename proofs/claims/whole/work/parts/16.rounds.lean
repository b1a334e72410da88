/-! the rounds: their contracts -/
set_option maxHeartbeats 400000 in
theorem c_X2_noteVoices {l : Launch} {D : va_G} {ad : Nat → Nat} {cy : Nat → ClassId} (hi : hx_inj ad) (I : MI) (J : MJ) (row : Nat) (hr : row < 31) (P : Nat) (hP : I 1 0 = nI P) (hP12 : P ≤ 12) (Q : Nat) (hQ : I 1 1 = nI Q) (hQ6 : Q ≤ 6) : Ct l D ad cy yX2_noteVoices cX2_noteVoices 3 none 1 [.ref (ad 3), .int (nI row)] I J (hx_is none I (ntF I P Q row J)) := by
  refine ct_start hi (by decide +kernel) (Nat.le_of_ble_eq_true rfl) (fun X hX hT => ?_)
  show X 0 [(0, .ref (ad 3)), (1, .int (nI row))] [] I J
  refine wl_iconst hX (v := 0) dX2_noteVoices_0 (by decide) ?_
  refine wl_istore_n hX (lv' := [(2, .int 0), (0, .ref (ad 3)), (1, .int (nI row))]) rfl (by decide) dX2_noteVoices_1 ?_
  refine wl_sub hX [1, 2, 0] rfl ?_
  have L : ∀ (k p : Nat), p ≤ P → P - p < k → X 2 [(0, .ref (ad 3)), (1, .int (nI row)), (2, .int (nI p))] [] I (lwJ J (69 + row) (fun p => codeF (vC I) p Q) p) := by
    intro k
    induction k with
    | zero => exact fun _  _ h => absurd h (Nat.not_lt_zero _)
    | succ k ihL =>
      intro p  hpn hpk
      refine wl_iload_n hX 2 rfl dX2_noteVoices_2 ?_
      refine wl_aload_n hX 0 rfl dX2_noteVoices_3 ?_
      refine gf_X2_0 hX tb_136 dX2_noteVoices_4 ?_
      refine gf_X1_0 hX tb_51 dX2_noteVoices_7 ?_
      refine wl_eqi (y := nI P) hP ?_
      refine wl_icmp_ge hX (tgt := 35) dX2_noteVoices_10 (by decide) (fun hpc => ?_) (fun hpc => ?_)
      · have hpe : p = P := by
          have h9 := (nI_leI (by omega) (by omega)).mp hpc
          omega
        exact wl_return hT dX2_noteVoices_35 ⟨rfl, rfl, by rw [hpe]; rfl⟩
      · have hp1 : p < P := Nat.lt_of_not_le (fun z => hpc ((nI_leI (by omega) (by omega)).mpr z))
        refine wl_aload_n hX 0 rfl dX2_noteVoices_13 ?_
        refine gf_X2_2 hX tb_138 dX2_noteVoices_14 ?_
        refine wl_iload_n hX 1 rfl dX2_noteVoices_17 ?_
        refine wl_aald5 hX row kc_16 rfl (by omega) dX2_noteVoices_18 ?_
        refine wl_iload_n hX 2 rfl dX2_noteVoices_19 ?_
        refine wl_aload_n hX 0 rfl dX2_noteVoices_20 ?_
        refine gf_X2_0 hX tb_136 dX2_noteVoices_21 ?_
        refine wl_iload_n hX 2 rfl dX2_noteVoices_24 ?_
        refine wl_cVl hX (c_X1_voicesInOne hi I (lwJ J (69 + row) (fun p => codeF (vC I) p Q) p) p (by omega) Q hQ hQ6) mv_X1_voicesInOne tb_358 (by decide) rfl rfl rfl rfl (by omega) (Nat.le_of_ble_eq_true rfl) dX2_noteVoices_25 ?_
        refine wl_last hX p (kd_69 (by omega)) rfl (by omega) dX2_noteVoices_28 ?_
        refine wl_iinc hX (v := nI (p + 1)) (lv' := [(2, .int (nI (p + 1))), (0, .ref (ad 3)), (1, .int (nI row))]) 2 rfl (nI_1 _) rfl (by decide) dX2_noteVoices_29 ?_
        refine wl_goto hX (tgt := 2) dX2_noteVoices_32 (by decide) ?_
        refine wl_sub hX [1, 2, 0] rfl ?_
        exact ihL (p + 1) (by omega) (by omega)
  exact L (P + 1) 0 (by omega) (by omega)

set_option maxHeartbeats 400000 in
theorem c_X2_isSameTrail {l : Launch} {D : va_G} {ad : Nat → Nat} {cy : Nat → ClassId} (hi : hx_inj ad) (I : MI) (J : MJ) (a b : Nat) (ha : a < 31) (hb : b < 31) (P : Nat) (hP : I 1 0 = nI P) (hP12 : P ≤ 12) : Ct l D ad cy yX2_isSameTrail cX2_isSameTrail 4 (some .boolean) 0 [.ref (ad 3), .int (nI a), .int (nI b)] I J (hx_is (some (.int (smF J a b P 0))) I J) := by
  refine ct_start hi (by decide +kernel) (Nat.le_of_ble_eq_true rfl) (fun X hX hT => ?_)
  show X 0 [(0, .ref (ad 3)), (1, .int (nI a)), (2, .int (nI b))] [] I J
  obtain ⟨res, hres⟩ : ∃ z : Int32, z = smF J a b P 0 := ⟨_, rfl⟩
  rw [← hres] at hT
  have L : ∀ (m p : Nat), p + m = P → smF J a b m p = res → X 2 [(0, .ref (ad 3)), (1, .int (nI a)), (2, .int (nI b)), (3, .int (nI p))] [] I J := by
    intro m
    induction m with
    | zero =>
      intro p hq hg
      refine wl_iload_n hX 3 rfl dX2_isSameTrail_2 ?_
      refine wl_aload_n hX 0 rfl dX2_isSameTrail_3 ?_
      refine gf_X2_0 hX tb_136 dX2_isSameTrail_4 ?_
      refine gf_X1_0 hX tb_51 dX2_isSameTrail_7 ?_
      refine wl_eqi (y := nI P) hP ?_
      refine wl_icmp_ge hX (tgt := 41) dX2_isSameTrail_10 (by decide) (fun h9 => ?_) (fun h9 => absurd ((nI_leI (by omega) (by omega)).mpr (by omega)) h9)
      refine wl_iconst hX (v := 1) dX2_isSameTrail_41 (by decide) ?_
      exact wl_zreturn hT dX2_isSameTrail_42 (by decide) (hx_ri hg)
    | succ m ih =>
      intro p hq hg
      have hg2 : (if J (69 + a) p = J (69 + b) p then smF J a b m (p + 1) else (0 : Int32)) = res := hg
      refine wl_iload_n hX 3 rfl dX2_isSameTrail_2 ?_
      refine wl_aload_n hX 0 rfl dX2_isSameTrail_3 ?_
      refine gf_X2_0 hX tb_136 dX2_isSameTrail_4 ?_
      refine gf_X1_0 hX tb_51 dX2_isSameTrail_7 ?_
      refine wl_eqi (y := nI P) hP ?_
      refine wl_icmp_ge hX (tgt := 41) dX2_isSameTrail_10 (by decide) (fun h9 => absurd h9 (fun z => absurd ((nI_leI (by omega) (by omega)).mp z) (by omega))) (fun h9 => ?_)
      refine wl_aload_n hX 0 rfl dX2_isSameTrail_13 ?_
      refine gf_X2_2 hX tb_138 dX2_isSameTrail_14 ?_
      refine wl_iload_n hX 1 rfl dX2_isSameTrail_17 ?_
      refine wl_aald5 hX a kc_16 rfl (by omega) dX2_isSameTrail_18 ?_
      refine wl_iload_n hX 3 rfl dX2_isSameTrail_19 ?_
      refine wl_lald hX p (kd_69 (by omega)) rfl (by omega) dX2_isSameTrail_20 ?_
      refine wl_aload_n hX 0 rfl dX2_isSameTrail_21 ?_
      refine gf_X2_2 hX tb_138 dX2_isSameTrail_22 ?_
      refine wl_iload_n hX 2 rfl dX2_isSameTrail_25 ?_
      refine wl_aald5 hX b kc_16 rfl (by omega) dX2_isSameTrail_26 ?_
      refine wl_iload_n hX 3 rfl dX2_isSameTrail_27 ?_
      refine wl_lald hX p (kd_69 (by omega)) rfl (by omega) dX2_isSameTrail_28 ?_
      refine wl_lif_eq hX (tgt := 35) dX2_isSameTrail_29 dX2_isSameTrail_30 (by decide) (fun h1 => ?_) (fun h1 => ?_)
      · rw [if_pos h1] at hg2
        refine wl_iinc hX (v := nI (p + 1)) (lv' := [(3, .int (nI (p + 1))), (0, .ref (ad 3)), (1, .int (nI a)), (2, .int (nI b))]) 3 rfl (nI_1 _) rfl (by decide) dX2_isSameTrail_35 ?_
        refine wl_goto hX (tgt := 2) dX2_isSameTrail_38 (by decide) ?_
        refine wl_sub hX [1, 2, 3, 0] rfl ?_
        exact ih (p + 1) (by omega) hg2
      · rw [if_neg h1] at hg2
        refine wl_iconst hX (v := 0) dX2_isSameTrail_33 (by decide) ?_
        exact wl_zreturn hT dX2_isSameTrail_34 (by decide) (hx_ri hg2)
  refine wl_iconst hX (v := 0) dX2_isSameTrail_0 (by decide) ?_
  refine wl_istore_n hX (lv' := [(3, .int 0), (0, .ref (ad 3)), (1, .int (nI a)), (2, .int (nI b))]) rfl (by decide) dX2_isSameTrail_1 ?_
  refine wl_sub hX [1, 2, 3, 0] rfl ?_
  exact L P 0 (by omega) hres.symm

set_option maxHeartbeats 400000 in
theorem c_X2_judge {l : Launch} {D : va_G} {ad : Nat → Nat} {cy : Nat → ClassId} (hi : hx_inj ad) (I : MI) (J : MJ) (done : Nat) (ch : Int32) (hd : done < 31) (P : Nat) (hP : I 1 0 = nI P) (hP12 : P ≤ 12) : Ct l D ad cy yX2_judge cX2_judge 4 none 1 [.ref (ad 3), .int (nI done), .int ch] I J (hx_is none (juF J P done ch I) J) := by
  refine ct_start hi (by decide +kernel) (Nat.le_of_ble_eq_true rfl) (fun X hX hT => ?_)
  show X 0 [(0, .ref (ad 3)), (1, .int (nI done)), (2, .int ch)] [] I J
  refine wl_iload_n hX 2 rfl dX2_judge_0 ?_
  refine wl_if_ne hX (tgt := 10) dX2_judge_1 (by decide) (fun h1 => ?_) (fun h1 => ?_)
  · refine wl_iconst hX (v := 0) dX2_judge_10 (by decide) ?_
    refine wl_istore_n hX (lv' := [(3, .int 0), (0, .ref (ad 3)), (1, .int (nI done)), (2, .int ch)]) rfl (by decide) dX2_judge_11 ?_
    refine wl_sub hX [1, 2, 3, 0] rfl ?_
    have L : ∀ (k row : Nat), row ≤ done → done - row < k → X 12 [(0, .ref (ad 3)), (1, .int (nI done)), (2, .int ch), (3, .int (nI row))] [] (jdF J P done I row) J := by
      intro k
      induction k with
      | zero => exact fun _  _ h => absurd h (Nat.not_lt_zero _)
      | succ k ihL =>
        intro row  hrown hrowk
        refine wl_iload_n hX 3 rfl dX2_judge_12 ?_
        refine wl_iload_n hX 1 rfl dX2_judge_13 ?_
        refine wl_icmp_ge hX (tgt := 44) dX2_judge_14 (by decide) (fun hrowc => ?_) (fun hrowc => ?_)
        · have hrowe : row = done := by
            have h9 := (nI_leI (by omega) (by omega)).mp hrowc
            omega
          exact wl_return hT dX2_judge_44 ⟨rfl, by rw [hrowe]; unfold juF; rw [if_neg h1], rfl⟩
        · have hrow1 : row < done := Nat.lt_of_not_le (fun z => hrowc ((nI_leI (by omega) (by omega)).mpr z))
          refine wl_aload_n hX 0 rfl dX2_judge_17 ?_
          refine wl_iload_n hX 3 rfl dX2_judge_18 ?_
          refine wl_iload_n hX 1 rfl dX2_judge_19 ?_
          refine wl_cVi hX (c_X2_isSameTrail hi (jdF J P done I row) J row done (by omega) hd P (by rw [jdF_ne (by decide)]; exact hP) hP12) mv_X2_isSameTrail tb_375 (by decide) rfl rfl rfl rfl (by omega) (Nat.le_of_ble_eq_true rfl) dX2_judge_20 ?_
          have e2 : jdF J P done I (row + 1) = if smF J row done P 0 = 0 then jdF J P done I row else hx_u (hx_u (jdF J P done I row) 3 5 2) 3 6 (nI done - nI row) := rfl
          refine wl_if_eq hX (tgt := 38) dX2_judge_23 (by decide) (fun h2 => ?_) (fun h2 => ?_)
          · rw [if_pos h2] at e2
            rw [← e2]
            refine wl_iinc hX (v := nI (row + 1)) (lv' := [(3, .int (nI (row + 1))), (0, .ref (ad 3)), (1, .int (nI done)), (2, .int ch)]) 3 rfl (nI_1 _) rfl (by decide) dX2_judge_38 ?_
            refine wl_goto hX (tgt := 12) dX2_judge_41 (by decide) ?_
            refine wl_sub hX [1, 2, 3, 0] rfl ?_
            exact ihL (row + 1) (by omega) (by omega)
          · rw [if_neg h2] at e2
            refine wl_aload_n hX 0 rfl dX2_judge_26 ?_
            refine wl_iconst hX (v := 2) dX2_judge_27 (by decide) ?_
            refine pf_X2_5 hX tb_143 dX2_judge_28 ?_
            refine wl_aload_n hX 0 rfl dX2_judge_31 ?_
            refine wl_iload_n hX 1 rfl dX2_judge_32 ?_
            refine wl_iload_n hX 3 rfl dX2_judge_33 ?_
            refine wl_isub hX dX2_judge_34 ?_
            refine pf_X2_6 hX tb_145 dX2_judge_35 ?_
            refine wl_mem (I' := (jdF J P done I (row + 1))) e2.symm rfl ?_
            refine wl_iinc hX (v := nI (row + 1)) (lv' := [(3, .int (nI (row + 1))), (0, .ref (ad 3)), (1, .int (nI done)), (2, .int ch)]) 3 rfl (nI_1 _) rfl (by decide) dX2_judge_38 ?_
            refine wl_goto hX (tgt := 12) dX2_judge_41 (by decide) ?_
            refine wl_sub hX [1, 2, 3, 0] rfl ?_
            exact ihL (row + 1) (by omega) (by omega)
    exact L (done + 1) 0 (by omega) (by omega)
  · refine wl_aload_n hX 0 rfl dX2_judge_4 ?_
    refine wl_iconst hX (v := 1) dX2_judge_5 (by decide) ?_
    refine pf_X2_5 hX tb_143 dX2_judge_6 ?_
    exact wl_return hT dX2_judge_9 ⟨rfl, by unfold juF; rw [if_pos h1], rfl⟩

set_option maxHeartbeats 400000 in
theorem c_X2_doRound {l : Launch} {D : va_G} {ad : Nat → Nat} {cy : Nat → ClassId} (hi : hx_inj ad) (I : MI) (J : MJ) (P : Nat) (hP : I 1 0 = nI P) (hP12 : P ≤ 12) (Q : Nat) (hQ : I 1 1 = nI Q) (hQ6 : Q ≤ 6) : Ct l D ad cy yX2_doRound cX2_doRound 3 (some .int) 10 [.ref (ad 3)] I J (hx_is (some (.int (drF P Q I P).2)) (drF P Q I P).1 J) := by
  refine ct_start hi (by decide +kernel) (Nat.le_of_ble_eq_true rfl) (fun X hX hT => ?_)
  show X 0 [(0, .ref (ad 3))] [] I J
  refine wl_iconst hX (v := 0) dX2_doRound_0 (by decide) ?_
  refine wl_istore_n hX (lv' := [(1, .int 0), (0, .ref (ad 3))]) rfl (by decide) dX2_doRound_1 ?_
  refine wl_iconst hX (v := 0) dX2_doRound_2 (by decide) ?_
  refine wl_istore_n hX (lv' := [(2, .int 0), (1, .int 0), (0, .ref (ad 3))]) rfl (by decide) dX2_doRound_3 ?_
  refine wl_sub hX [2, 1, 0] rfl ?_
  have L : ∀ (k p : Nat), p ≤ P → P - p < k → X 4 [(0, .ref (ad 3)), (1, .int ((drF P Q I p).2)), (2, .int (nI p))] [] ((drF P Q I p).1) J := by
    intro k
    induction k with
    | zero => exact fun _  _ h => absurd h (Nat.not_lt_zero _)
    | succ k ihL =>
      intro p  hpn hpk
      have d1 : (drF P Q I p).1 1 0 = nI P := by rw [drF_ne hQ6 (by unfold scrR scrC; omega) p (by omega)]; exact hP
      have d2 : (drF P Q I p).1 1 1 = nI Q := by rw [drF_ne hQ6 (by unfold scrR scrC; omega) p (by omega)]; exact hQ
      refine wl_iload_n hX 2 rfl dX2_doRound_4 ?_
      refine wl_aload_n hX 0 rfl dX2_doRound_5 ?_
      refine gf_X2_0 hX tb_136 dX2_doRound_6 ?_
      refine gf_X1_0 hX tb_51 dX2_doRound_9 ?_
      refine wl_eqi (y := nI P) d1 ?_
      refine wl_icmp_ge hX (tgt := 70) dX2_doRound_12 (by decide) (fun hpc => ?_) (fun hpc => ?_)
      · have hpe : p = P := by
          have h9 := (nI_leI (by omega) (by omega)).mp hpc
          omega
        refine wl_iload_n hX 1 rfl dX2_doRound_70 ?_
        exact wl_ireturn hT dX2_doRound_71 ⟨by rw [hpe], by rw [hpe], rfl⟩
      · have hp1 : p < P := Nat.lt_of_not_le (fun z => hpc ((nI_leI (by omega) (by omega)).mpr z))
        have e2 : drF P Q I (p + 1) = if (drF P Q I p).1 7 p = 0 then (drF P Q I p) else if gainF ((ffM (drF P Q I p).1 P Q p) 7) (vC (ffM (drF P Q I p).1 P Q p)) (wC (ffM (drF P Q I p).1 P Q p)) P Q p < (ffM (drF P Q I p).1 P Q p) 2 7 then (hx_cp (ffM (drF P Q I p).1 P Q p) 15 (33 + p) Q, (drF P Q I p).2 + 1) else ((ffM (drF P Q I p).1 P Q p), (drF P Q I p).2) := rfl
        refine wl_aload_n hX 0 rfl dX2_doRound_15 ?_
        refine gf_X2_0 hX tb_136 dX2_doRound_16 ?_
        refine gf_X1_4 hX tb_62 dX2_doRound_19 ?_
        refine wl_iload_n hX 2 rfl dX2_doRound_22 ?_
        refine wl_zald hX p kc_7 rfl (by omega) dX2_doRound_23 ?_
        refine wl_if_eq hX (tgt := 64) dX2_doRound_24 (by decide) (fun h1 => ?_) (fun h1 => ?_)
        · rw [if_pos h1] at e2
          rw [← e2]
          refine wl_iinc hX (v := nI (p + 1)) (lv' := [(2, .int (nI (p + 1))), (0, .ref (ad 3)), (1, .int ((drF P Q I (p + 1)).2))]) 2 rfl (nI_1 _) rfl (by decide) dX2_doRound_64 ?_
          refine wl_goto hX (tgt := 4) dX2_doRound_67 (by decide) ?_
          refine wl_sub hX [1, 2, 0] rfl ?_
          exact ihL (p + 1) (by omega) (by omega)
        · rw [if_neg h1] at e2
          have f1 : (ffM (drF P Q I p).1 P Q p) 1 0 = nI P := by rw [ffM_ne hQ6 (by unfold scrC; omega)]; exact d1
          have f2 : (ffM (drF P Q I p).1 P Q p) 1 1 = nI Q := by rw [ffM_ne hQ6 (by unfold scrC; omega)]; exact d2
          refine wl_aload_n hX 0 rfl dX2_doRound_27 ?_
          refine gf_X2_1 hX tb_137 dX2_doRound_28 ?_
          refine wl_iload_n hX 2 rfl dX2_doRound_31 ?_
          refine wl_cVv hX (c_X3_findFor hi (drF P Q I p).1 J P d1 hP12 p (by omega) Q d2 hQ6) mv_X3_findFor tb_368 (by decide) rfl rfl rfl rfl (by omega) (Nat.le_of_ble_eq_true rfl) dX2_doRound_32 ?_
          refine wl_aload_n hX 0 rfl dX2_doRound_35 ?_
          refine gf_X2_1 hX tb_137 dX2_doRound_36 ?_
          refine gf_X3_7 hX tb_103 dX2_doRound_39 ?_
          refine wl_aload_n hX 0 rfl dX2_doRound_42 ?_
          refine gf_X2_0 hX tb_136 dX2_doRound_43 ?_
          refine wl_iload_n hX 2 rfl dX2_doRound_46 ?_
          refine wl_cVi hX (c_X1_gainOf hi (ffM (drF P Q I p).1 P Q p) J p (by omega) P f1 hP12 Q f2 hQ6) mv_X1_gainOf tb_369 (by decide) rfl rfl rfl rfl (by omega) (Nat.le_of_ble_eq_true rfl) dX2_doRound_47 ?_
          refine wl_icmp_le hX (tgt := 64) dX2_doRound_50 (by decide) (fun h2 => ?_) (fun h2 => ?_)
          · rw [if_neg (fun z => by rw [Int32.lt_iff_toInt_lt] at z; rw [Int32.le_iff_toInt_le] at h2; omega)] at e2
            have e3 : (drF P Q I (p + 1)).1 = (ffM (drF P Q I p).1 P Q p) := by rw [e2]
            have e4 : (drF P Q I (p + 1)).2 = (drF P Q I p).2 := by rw [e2]
            rw [← e3, ← e4]
            refine wl_iinc hX (v := nI (p + 1)) (lv' := [(2, .int (nI (p + 1))), (0, .ref (ad 3)), (1, .int ((drF P Q I (p + 1)).2))]) 2 rfl (nI_1 _) rfl (by decide) dX2_doRound_64 ?_
            refine wl_goto hX (tgt := 4) dX2_doRound_67 (by decide) ?_
            refine wl_sub hX [1, 2, 0] rfl ?_
            exact ihL (p + 1) (by omega) (by omega)
          · rw [if_pos (by rw [Int32.lt_iff_toInt_lt]; rw [Int32.le_iff_toInt_le] at h2; omega)] at e2
            have e3 : (drF P Q I (p + 1)).1 = hx_cp (ffM (drF P Q I p).1 P Q p) 15 (33 + p) Q := by rw [e2]
            have e4 : (drF P Q I (p + 1)).2 = (drF P Q I p).2 + 1 := by rw [e2]
            refine wl_aload_n hX 0 rfl dX2_doRound_53 ?_
            refine gf_X2_1 hX tb_137 dX2_doRound_54 ?_
            refine wl_iload_n hX 2 rfl dX2_doRound_57 ?_
            refine wl_cVv hX (c_X3_giveTo hi (ffM (drF P Q I p).1 P Q p) J p (by omega) Q f2 hQ6) mv_X3_giveTo tb_370 (by decide) rfl rfl rfl rfl (by omega) (Nat.le_of_ble_eq_true rfl) dX2_doRound_58 ?_
            rw [← e3]
            refine wl_iinc hX (v := (drF P Q I (p + 1)).2) (lv' := [(1, .int ((drF P Q I (p + 1)).2)), (0, .ref (ad 3)), (2, .int (nI p))]) 1 rfl (by exact e4.symm) rfl (by decide) dX2_doRound_61 ?_
            refine wl_iinc hX (v := nI (p + 1)) (lv' := [(2, .int (nI (p + 1))), (1, .int ((drF P Q I (p + 1)).2)), (0, .ref (ad 3))]) 2 rfl (nI_1 _) rfl (by decide) dX2_doRound_64 ?_
            refine wl_goto hX (tgt := 4) dX2_doRound_67 (by decide) ?_
            refine wl_sub hX [2, 1, 0] rfl ?_
            exact ihL (p + 1) (by omega) (by omega)
  exact L (P + 1) 0 (by omega) (by omega)

set_option maxHeartbeats 400000 in
theorem c_X2_playAtMost {l : Launch} {D : va_G} {ad : Nat → Nat} {cy : Nat → ClassId} (hi : hx_inj ad) (I : MI) (J : MJ) (N : Nat) (hN : N ≤ 30) (P : Nat) (hP : I 1 0 = nI P) (hP12 : P ≤ 12) (Q : Nat) (hQ : I 1 1 = nI Q) (hQ6 : Q ≤ 6) : Ct l D ad cy yX2_playAtMost cX2_playAtMost 4 (some .int) 11 [.ref (ad 3), .int (nI N)] I J (hx_is (some (.int (nI (plF P Q N 0 (pl0 I, ntF (pl0 I) P Q 0 J)).1))) (plF P Q N 0 (pl0 I, ntF (pl0 I) P Q 0 J)).2.1 (plF P Q N 0 (pl0 I, ntF (pl0 I) P Q 0 J)).2.2) := by
  refine ct_start hi (by decide +kernel) (Nat.le_of_ble_eq_true rfl) (fun X hX hT => ?_)
  show X 0 [(0, .ref (ad 3)), (1, .int (nI N))] [] I J
  refine wl_aload_n hX 0 rfl dX2_playAtMost_0 ?_
  refine wl_iconst hX (v := 0) dX2_playAtMost_1 (by decide) ?_
  refine pf_X2_5 hX tb_143 dX2_playAtMost_2 ?_
  refine wl_aload_n hX 0 rfl dX2_playAtMost_5 ?_
  refine wl_iconst hX (v := 0) dX2_playAtMost_6 (by decide) ?_
  refine pf_X2_6 hX tb_145 dX2_playAtMost_7 ?_
  refine wl_mem (I' := (pl0 I)) rfl rfl ?_
  refine wl_aload_n hX 0 rfl dX2_playAtMost_10 ?_
  refine wl_iconst hX (v := 0) dX2_playAtMost_11 (by decide) ?_
  refine wl_cVv hX (c_X2_noteVoices hi (pl0 I) J 0 (by omega) P hP hP12 Q hQ hQ6) mv_X2_noteVoices tb_354 (by decide) rfl rfl rfl rfl (by omega) (Nat.le_of_ble_eq_true rfl) dX2_playAtMost_12 ?_
  refine wl_iconst hX (v := 0) dX2_playAtMost_15 (by decide) ?_
  refine wl_istore_n hX (lv' := [(2, .int 0), (0, .ref (ad 3)), (1, .int (nI N))]) rfl (by decide) dX2_playAtMost_16 ?_
  refine wl_sub hX [1, 2, 0] rfl ?_
  obtain ⟨res, hres⟩ : ∃ z : Nat × MI × MJ, z = (plF P Q N 0 (pl0 I, ntF (pl0 I) P Q 0 J)) := ⟨_, rfl⟩
  rw [← hres] at hT
  have L : ∀ (f d : Nat) (M : MI) (K : MJ), d + f = N → M 1 0 = nI P → M 1 1 = nI Q → plF P Q f d (M, K) = res → X 17 [(0, .ref (ad 3)), (1, .int (nI N)), (2, .int (nI d))] [] M K := by
    intro f
    induction f with
    | zero =>
      intro d M K hd m1 m2 hg
      refine wl_iload_n hX 2 rfl dX2_playAtMost_17 ?_
      refine wl_iload_n hX 1 rfl dX2_playAtMost_18 ?_
      refine wl_icmp_ge hX (tgt := 77) dX2_playAtMost_19 (by decide) (fun h9 => ?_) (fun h9 => absurd ((nI_leI (by omega) (by omega)).mpr (by omega)) h9)
      refine wl_iload_n hX 2 rfl dX2_playAtMost_77 ?_
      exact wl_ireturn hT dX2_playAtMost_78 ⟨by rw [← hg]; rfl, by rw [← hg]; rfl, by rw [← hg]; rfl⟩
    | succ f ih =>
      intro d M K hd m1 m2 hg
      have hg2 : (if M 3 5 = 0 then plF P Q f (d + 1) (prF P Q d (M, K)) else (d, M, K)) = res := hg
      refine wl_iload_n hX 2 rfl dX2_playAtMost_17 ?_
      refine wl_iload_n hX 1 rfl dX2_playAtMost_18 ?_
      refine wl_icmp_ge hX (tgt := 77) dX2_playAtMost_19 (by decide) (fun h9 => absurd h9 (fun z => absurd ((nI_leI (by omega) (by omega)).mp z) (by omega))) (fun h9 => ?_)
      refine wl_iload_n hX 2 rfl dX2_playAtMost_22 ?_
      refine wl_bipush hX (v := 30) dX2_playAtMost_23 (by decide) ?_
      refine wl_icmp_ge hX (tgt := 77) dX2_playAtMost_25 (by decide) (fun h8 => absurd h8 (fun z => absurd ((nI_leI (a := 30) (by omega) (by omega)).mp z) (by omega))) (fun h8 => ?_)
      refine wl_aload_n hX 0 rfl dX2_playAtMost_28 ?_
      refine gf_X2_5 hX tb_143 dX2_playAtMost_29 ?_
      refine wl_if_ne hX (tgt := 77) dX2_playAtMost_32 (by decide) (fun h1 => ?_) (fun h1 => ?_)
      · rw [if_neg h1] at hg2
        refine wl_iload_n hX 2 rfl dX2_playAtMost_77 ?_
        exact wl_ireturn hT dX2_playAtMost_78 ⟨by rw [← hg2], by rw [← hg2], by rw [← hg2]⟩
      · rw [if_pos h1] at hg2
        refine wl_aload_n hX 0 rfl dX2_playAtMost_35 ?_
        refine wl_cVi hX (c_X2_doRound hi M K P m1 hP12 Q m2 hQ6) mv_X2_doRound tb_364 (by decide) rfl rfl rfl rfl (by omega) (Nat.le_of_ble_eq_true rfl) dX2_playAtMost_36 ?_
        refine wl_istore_n hX (lv' := [(3, .int ((drF P Q M P).2)), (0, .ref (ad 3)), (1, .int (nI N)), (2, .int (nI d))]) rfl (by decide) dX2_playAtMost_39 ?_
        refine wl_iinc hX (v := nI (d + 1)) (lv' := [(2, .int (nI (d + 1))), (3, .int ((drF P Q M P).2)), (0, .ref (ad 3)), (1, .int (nI N))]) 3 rfl (nI_1 _) rfl (by decide) dX2_playAtMost_40 ?_
        refine wl_aload_n hX 2 rfl dX2_playAtMost_43 ?_
        refine wl_dup hX dX2_playAtMost_44 rfl ?_
        refine gf_X2_3 hX tb_139 dX2_playAtMost_45 ?_
        refine wl_iconst hX (v := 1) dX2_playAtMost_48 (by decide) ?_
        refine wl_iadd hX dX2_playAtMost_49 ?_
        refine pf_X2_3 hX tb_139 dX2_playAtMost_50 ?_
        refine wl_aload_n hX 2 rfl dX2_playAtMost_53 ?_
        refine wl_dup hX dX2_playAtMost_54 rfl ?_
        refine gf_X2_4 hX tb_141 dX2_playAtMost_55 ?_
        refine wl_iload_n hX 1 rfl dX2_playAtMost_58 ?_
        refine wl_iadd hX dX2_playAtMost_59 ?_
        refine pf_X2_4 hX tb_141 dX2_playAtMost_60 ?_
        have t1 : (tlM (drF P Q M P).1 (drF P Q M P).2) 1 0 = nI P := by
          refine Eq.trans ?_ m1
          exact congrFun (drF_ne hQ6 (by unfold scrR scrC; omega) P hP12) 0
        have t2 : (tlM (drF P Q M P).1 (drF P Q M P).2) 1 1 = nI Q := by
          refine Eq.trans ?_ m2
          exact congrFun (drF_ne hQ6 (by unfold scrR scrC; omega) P hP12) 1
        refine wl_mem (I' := (tlM (drF P Q M P).1 (drF P Q M P).2)) rfl rfl ?_
        refine wl_aload_n hX 2 rfl dX2_playAtMost_63 ?_
        refine wl_iload_n hX 0 rfl dX2_playAtMost_64 ?_
        refine wl_cVv hX (c_X2_noteVoices hi (tlM (drF P Q M P).1 (drF P Q M P).2) K (d + 1) (by omega) P t1 hP12 Q t2 hQ6) mv_X2_noteVoices tb_354 (by decide) rfl rfl rfl rfl (by omega) (Nat.le_of_ble_eq_true rfl) dX2_playAtMost_65 ?_
        refine wl_aload_n hX 2 rfl dX2_playAtMost_68 ?_
        refine wl_iload_n hX 0 rfl dX2_playAtMost_69 ?_
        refine wl_iload_n hX 1 rfl dX2_playAtMost_70 ?_
        refine wl_cVv hX (c_X2_judge hi (tlM (drF P Q M P).1 (drF P Q M P).2) (ntF (tlM (drF P Q M P).1 (drF P Q M P).2) P Q (d + 1) K) (d + 1) (drF P Q M P).2 (by omega) P t1 hP12) mv_X2_judge tb_371 (by decide) rfl rfl rfl rfl (by omega) (Nat.le_of_ble_eq_true rfl) dX2_playAtMost_71 ?_
        refine wl_goto hX (tgt := 17) dX2_playAtMost_74 (by decide) ?_
        refine wl_sub hX [2, 3, 0] rfl ?_
        exact ih (d + 1) _ _ (by omega) (by rw [juF_ne (by decide)]; exact t1) (by rw [juF_ne (by decide)]; exact t2) hg2
  exact L N 0 _ _ (by omega) hP hQ hres.symm

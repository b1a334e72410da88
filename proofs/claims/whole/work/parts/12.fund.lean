/-! the fund -/
theorem hx_ne0 {x : Int64} (h : 0 < x) : ¬ x = 0 := fun e => by
  rw [e] at h
  exact absurd h (by decide)
set_option maxHeartbeats 400000 in
theorem c_X0_hasProject {l : Launch} {D : va_G} {ad : Nat → Nat} {cy : Nat → ClassId} (hi : hx_inj ad) (I : MI) (J : MJ) (x : Int32) : Ct l D ad cy yX0_hasProject cX0_hasProject 2 (some .boolean) 0 [.ref (ad 4), .int x] I J (hx_is (some (.int (inF x (I 4 1)))) I J) := by
  refine ct_start hi (by decide +kernel) (Nat.le_of_ble_eq_true rfl) (fun X hX hT => ?_)
  show X 0 [(0, .ref (ad 4)), (1, .int x)] [] I J
  refine wl_iload_n hX 1 rfl dX0_hasProject_0 ?_
  refine wl_if_lt hX (tgt := 16) dX0_hasProject_1 (by decide) (fun h1 => ?_) (fun h1 => ?_)
  · refine wl_iconst hX (v := 0) dX0_hasProject_16 (by decide) ?_
    exact wl_zreturn hT dX0_hasProject_17 (by decide) (hx_ri (if_neg (fun h => by rw [Int32.lt_iff_toInt_lt] at h1; have h2 := Int32.le_iff_toInt_le.mp h.1; omega)).symm)
  · refine wl_iload_n hX 1 rfl dX0_hasProject_4 ?_
    refine wl_aload_n hX 0 rfl dX0_hasProject_5 ?_
    refine gf_X0_1 hX tb_171 dX0_hasProject_6 ?_
    refine wl_icmp_ge hX (tgt := 16) dX0_hasProject_9 (by decide) (fun h2 => ?_) (fun h2 => ?_)
    · refine wl_iconst hX (v := 0) dX0_hasProject_16 (by decide) ?_
      exact wl_zreturn hT dX0_hasProject_17 (by decide) (hx_ri (if_neg (fun h => by have h3 := Int32.le_iff_toInt_le.mp h2; have h4 := Int32.lt_iff_toInt_lt.mp h.2; omega)).symm)
    · refine wl_iconst hX (v := 1) dX0_hasProject_12 (by decide) ?_
      refine wl_goto hX (tgt := 17) dX0_hasProject_13 (by decide) ?_
      exact wl_zreturn hT dX0_hasProject_17 (by decide) (hx_ri (if_pos ⟨by rw [Int32.le_iff_toInt_le]; rw [Int32.lt_iff_toInt_lt] at h1; omega, by rw [Int32.lt_iff_toInt_lt]; rw [Int32.le_iff_toInt_le] at h2; omega⟩).symm)

set_option maxHeartbeats 400000 in
theorem c_X0_fineProduct {l : Launch} {D : va_G} {ad : Nat → Nat} {cy : Nat → ClassId} (hi : hx_inj ad) (I : MI) (J : MJ) (p r j : Nat) (hp : p < 12) (hr : r < 12) (hj : j < 6) : Ct l D ad cy yX0_fineProduct cX0_fineProduct 4 (some .long) 0 [.ref (ad 4), .int (nI p), .int (nI r), .int (nI j)] I J (hx_is (some (.long (fineF (gC I) p r j))) I J) := by
  refine ct_start hi (by decide +kernel) (Nat.le_of_ble_eq_true rfl) (fun X hX hT => ?_)
  show X 0 [(0, .ref (ad 4)), (1, .int (nI p)), (2, .int (nI r)), (3, .int (nI j))] [] I J
  refine wl_ldc2 hX tb_414 dX0_fineProduct_0 ?_
  refine wl_aload_n hX 0 rfl dX0_fineProduct_3 ?_
  refine gf_X0_2 hX tb_173 dX0_fineProduct_4 ?_
  refine wl_iload_n hX 1 rfl dX0_fineProduct_7 ?_
  refine wl_aald4 hX p kc_17 rfl (by omega) dX0_fineProduct_8 ?_
  refine wl_iload_n hX 3 rfl dX0_fineProduct_9 ?_
  refine wl_iald hX j (kd_100 (by omega)) rfl (by omega) dX0_fineProduct_10 ?_
  refine wl_i2l hX (v := (I (100 + p) j).toInt64) dX0_fineProduct_11 rfl ?_
  refine wl_lmul hX dX0_fineProduct_12 ?_
  refine wl_aload_n hX 0 rfl dX0_fineProduct_13 ?_
  refine gf_X0_2 hX tb_173 dX0_fineProduct_14 ?_
  refine wl_iload_n hX 2 rfl dX0_fineProduct_17 ?_
  refine wl_aald4 hX r kc_17 rfl (by omega) dX0_fineProduct_18 ?_
  refine wl_iload_n hX 3 rfl dX0_fineProduct_19 ?_
  refine wl_iald hX j (kd_100 (by omega)) rfl (by omega) dX0_fineProduct_20 ?_
  refine wl_i2l hX (v := (I (100 + r) j).toInt64) dX0_fineProduct_21 rfl ?_
  refine wl_lmul hX dX0_fineProduct_22 ?_
  exact wl_lreturn hT dX0_fineProduct_23 (hx_rl rfl)

set_option maxHeartbeats 400000 in
theorem c_X0_root {l : Launch} {D : va_G} {ad : Nat → Nat} {cy : Nat → ClassId} (hi : hx_inj ad) (I : MI) (J : MJ) (x : Int64) : Ct l D ad cy yX0_root cX0_root 6 (some .long) 0 [.long x] I J (hx_is (some (.long (rootF x))) I J) := by
  refine ct_start hi (by decide +kernel) (Nat.le_of_ble_eq_true rfl) (fun X hX hT => ?_)
  show X 0 [(0, .long x)] [] I J
  obtain ⟨res, hres⟩ : ∃ z : Int64, z = rootF x := ⟨_, rfl⟩
  rw [← hres] at hT
  have L : ∀ (k : Nat) (r : Int64), k ≤ 29 → rtF x k r = res → X 7 [(0, .long x), (2, .long r), (4, .long (bitL k))] [] I J := by
    intro k
    induction k with
    | zero =>
      intro r hk hg
      refine wl_lload hX 2 rfl dX0_root_7 ?_
      refine wl_lconst hX (v := 0) dX0_root_9 (by decide) ?_
      refine wl_lif_le hX (tgt := 42) dX0_root_10 dX0_root_11 (by decide) (fun h9 => ?_) (fun h9 => absurd (by decide) h9)
      refine wl_lload_n hX 1 rfl dX0_root_42 ?_
      exact wl_lreturn hT dX0_root_43 (hx_rl hg)
    | succ k ih =>
      intro r hk hg
      have hg2 : rtF x k (if x < (r + bitL (k + 1)) * (r + bitL (k + 1)) then r else r + bitL (k + 1)) = res := hg
      refine wl_lload hX 2 rfl dX0_root_7 ?_
      refine wl_lconst hX (v := 0) dX0_root_9 (by decide) ?_
      refine wl_lif_le hX (tgt := 42) dX0_root_10 dX0_root_11 (by decide) (fun h9 => absurd h9 (bitL_pos k (by omega))) (fun h9 => ?_)
      refine wl_lload_n hX 1 rfl dX0_root_14 ?_
      refine wl_lload hX 2 rfl dX0_root_15 ?_
      refine wl_ladd hX dX0_root_17 ?_
      refine wl_lload_n hX 1 rfl dX0_root_18 ?_
      refine wl_lload hX 2 rfl dX0_root_19 ?_
      refine wl_ladd hX dX0_root_21 ?_
      refine wl_lmul hX dX0_root_22 ?_
      refine wl_lload_n hX 0 rfl dX0_root_23 ?_
      refine wl_lif_gt hX (tgt := 33) dX0_root_24 dX0_root_25 (by decide) (fun h2 => ?_) (fun h2 => ?_)
      · rw [if_pos h2] at hg2
        refine wl_lload hX 2 rfl dX0_root_33 ?_
        refine wl_iconst hX (v := 1) dX0_root_35 (by decide) ?_
        refine wl_lshr hX (v := bitL k) dX0_root_36 (bitL_shr k (by omega)) ?_
        refine wl_lstore hX (lv' := [(4, .long (bitL k)), (0, .long x), (2, .long r)]) rfl (by decide) dX0_root_37 ?_
        refine wl_goto hX (tgt := 7) dX0_root_39 (by decide) ?_
        refine wl_sub hX [1, 2, 0] rfl ?_
        exact ih _ (by omega) hg2
      · rw [if_neg h2] at hg2
        refine wl_lload_n hX 1 rfl dX0_root_28 ?_
        refine wl_lload hX 2 rfl dX0_root_29 ?_
        refine wl_ladd hX dX0_root_31 ?_
        refine wl_lstore_n hX (lv' := [(2, .long (r + (bitL (k + 1)))), (0, .long x), (4, .long (bitL (k + 1)))]) rfl (by decide) dX0_root_32 ?_
        refine wl_lload hX 2 rfl dX0_root_33 ?_
        refine wl_iconst hX (v := 1) dX0_root_35 (by decide) ?_
        refine wl_lshr hX (v := bitL k) dX0_root_36 (bitL_shr k (by omega)) ?_
        refine wl_lstore hX (lv' := [(4, .long (bitL k)), (2, .long (r + (bitL (k + 1)))), (0, .long x)]) rfl (by decide) dX0_root_37 ?_
        refine wl_goto hX (tgt := 7) dX0_root_39 (by decide) ?_
        refine wl_sub hX [2, 1, 0] rfl ?_
        exact ih _ (by omega) hg2
  refine wl_lconst hX (v := 0) dX0_root_0 (by decide) ?_
  refine wl_lstore_n hX (lv' := [(2, .long 0), (0, .long x)]) rfl (by decide) dX0_root_1 ?_
  refine wl_ldc2 hX tb_418 dX0_root_2 ?_
  refine wl_lstore hX (lv' := [(4, .long 268435456), (2, .long 0), (0, .long x)]) rfl (by decide) dX0_root_5 ?_
  refine wl_sub hX [2, 1, 0] rfl ?_
  have e0 : (268435456 : Int64) = bitL 29 := by decide
  rw [e0]
  exact L 29 0 (by omega) hres.symm

set_option maxHeartbeats 400000 in
theorem c_X0_rootAbove {l : Launch} {D : va_G} {ad : Nat → Nat} {cy : Nat → ClassId} (hi : hx_inj ad) (I : MI) (J : MJ) (x : Int64) : Ct l D ad cy yX0_rootAbove cX0_rootAbove 4 (some .long) 1 [.long x] I J (hx_is (some (.long (rootAF x))) I J) := by
  refine ct_start hi (by decide +kernel) (Nat.le_of_ble_eq_true rfl) (fun X hX hT => ?_)
  show X 0 [(0, .long x)] [] I J
  refine wl_lload_n hX 0 rfl dX0_rootAbove_0 ?_
  refine wl_cSl hX (c_X0_root hi I J x) mv_X0_root tb_415 rfl rfl (by omega) (Nat.le_of_ble_eq_true rfl) dX0_rootAbove_1 ?_
  refine wl_lstore_n hX (lv' := [(2, .long (rootF x)), (0, .long x)]) rfl (by decide) dX0_rootAbove_4 ?_
  refine wl_lload_n hX 0 rfl dX0_rootAbove_5 ?_
  refine wl_lload_n hX 0 rfl dX0_rootAbove_6 ?_
  refine wl_lmul hX dX0_rootAbove_7 ?_
  refine wl_lload_n hX 1 rfl dX0_rootAbove_8 ?_
  refine wl_lif_ne hX (tgt := 17) dX0_rootAbove_9 dX0_rootAbove_10 (by decide) (fun h1 => ?_) (fun h1 => ?_)
  · refine wl_lload_n hX 0 rfl dX0_rootAbove_17 ?_
    refine wl_lconst hX (v := 1) dX0_rootAbove_18 (by decide) ?_
    refine wl_ladd hX dX0_rootAbove_19 ?_
    exact wl_lreturn hT dX0_rootAbove_20 (hx_rl (by unfold rootAF; rw [if_neg h1]))
  · refine wl_lload_n hX 0 rfl dX0_rootAbove_13 ?_
    refine wl_goto hX (tgt := 20) dX0_rootAbove_14 (by decide) ?_
    exact wl_lreturn hT dX0_rootAbove_20 (hx_rl (by unfold rootAF; rw [if_pos h1]))

set_option maxHeartbeats 400000 in
theorem c_X0_matchedLow {l : Launch} {D : va_G} {ad : Nat → Nat} {cy : Nat → ClassId} (hi : hx_inj ad) (I : MI) (J : MJ) (j : Nat) (hj : j < 6) (P : Nat) (hP : I 1 0 = nI P) (hP12 : P ≤ 12) : Ct l D ad cy yX0_matchedLow cX0_matchedLow 6 (some .long) 1 [.ref (ad 4), .int (nI j)] I J (hx_is (some (.long (mLowF (gC I) (bC I) P j))) I J) := by
  refine ct_start hi (by decide +kernel) (Nat.le_of_ble_eq_true rfl) (fun X hX hT => ?_)
  show X 0 [(0, .ref (ad 4)), (1, .int (nI j))] [] I J
  refine wl_lconst hX (v := 0) dX0_matchedLow_0 (by decide) ?_
  refine wl_lstore_n hX (lv' := [(2, .long 0), (0, .ref (ad 4)), (1, .int (nI j))]) rfl (by decide) dX0_matchedLow_1 ?_
  refine wl_iconst hX (v := 0) dX0_matchedLow_2 (by decide) ?_
  refine wl_istore hX (lv' := [(4, .int 0), (2, .long 0), (0, .ref (ad 4)), (1, .int (nI j))]) rfl (by decide) dX0_matchedLow_3 ?_
  refine wl_sub hX [2, 3, 1, 0] rfl ?_
  have L : ∀ (k p : Nat), p ≤ P → P - p < k → X 5 [(0, .ref (ad 4)), (1, .int (nI j)), (2, .long (triF (lowF (gC I) (bC I) j) p)), (4, .int (nI p))] [] I J := by
    intro k
    induction k with
    | zero => exact fun _  _ h => absurd h (Nat.not_lt_zero _)
    | succ k ihL =>
      intro p  hpn hpk
      refine wl_iload hX 3 rfl dX0_matchedLow_5 ?_
      refine wl_aload_n hX 0 rfl dX0_matchedLow_7 ?_
      refine gf_X0_0 hX tb_170 dX0_matchedLow_8 ?_
      refine gf_X1_0 hX tb_52 dX0_matchedLow_11 ?_
      refine wl_eqi (y := nI P) hP ?_
      refine wl_icmp_ge hX (tgt := 66) dX0_matchedLow_14 (by decide) (fun hpc => ?_) (fun hpc => ?_)
      · have hpe : p = P := by
          have h9 := (nI_leI (by omega) (by omega)).mp hpc
          omega
        refine wl_ldc2 hX tb_419 dX0_matchedLow_66 ?_
        refine wl_lload_n hX 2 rfl dX0_matchedLow_69 ?_
        refine wl_lmul hX dX0_matchedLow_70 ?_
        refine wl_ldc2 hX tb_420 dX0_matchedLow_71 ?_
        refine wl_ldiv hX dX0_matchedLow_74 (by decide) ?_
        exact wl_lreturn hT dX0_matchedLow_75 (hx_rl (by rw [hpe]; rfl))
      · have hp1 : p < P := Nat.lt_of_not_le (fun z => hpc ((nI_leI (by omega) (by omega)).mpr z))
        refine wl_iconst hX (v := 0) dX0_matchedLow_17 (by decide) ?_
        refine wl_istore hX (lv' := [(5, .int 0), (0, .ref (ad 4)), (1, .int (nI j)), (2, .long (triF (lowF (gC I) (bC I) j) p)), (4, .int (nI p))]) rfl (by decide) dX0_matchedLow_18 ?_
        refine wl_sub hX [1, 2, 3, 4, 0] rfl ?_
        have M : ∀ (k r : Nat), r ≤ p → p - r < k → X 20 [(0, .ref (ad 4)), (1, .int (nI j)), (2, .long (accF ((lowF (gC I) (bC I) j) p) r (triF (lowF (gC I) (bC I) j) p))), (4, .int (nI p)), (5, .int (nI r))] [] I J := by
          intro k
          induction k with
          | zero => exact fun _  _ h => absurd h (Nat.not_lt_zero _)
          | succ k ihM =>
            intro r  hrn hrk
            refine wl_iload hX 4 rfl dX0_matchedLow_20 ?_
            refine wl_iload hX 3 rfl dX0_matchedLow_22 ?_
            refine wl_icmp_ge hX (tgt := 60) dX0_matchedLow_24 (by decide) (fun hrc => ?_) (fun hrc => ?_)
            · have hre : r = p := by
                have h9 := (nI_leI (by omega) (by omega)).mp hrc
                omega
              rw [hre]
              refine wl_iinc hX (v := nI (p + 1)) (lv' := [(4, .int (nI (p + 1))), (0, .ref (ad 4)), (1, .int (nI j)), (2, .long (accF ((lowF (gC I) (bC I) j) p) p (triF (lowF (gC I) (bC I) j) p))), (5, .int (nI p))]) 3 rfl (nI_1 _) rfl (by decide) dX0_matchedLow_60 ?_
              refine wl_goto hX (tgt := 5) dX0_matchedLow_63 (by decide) ?_
              refine wl_sub hX [1, 2, 3, 0] rfl ?_
              exact ihL (p + 1) (by omega) (by omega)
            · have hr1 : r < p := Nat.lt_of_not_le (fun z => hrc ((nI_leI (by omega) (by omega)).mpr z))
              refine wl_lload_n hX 2 rfl dX0_matchedLow_27 ?_
              refine wl_aload_n hX 0 rfl dX0_matchedLow_28 ?_
              refine gf_X0_3 hX tb_175 dX0_matchedLow_29 ?_
              refine wl_iload hX 3 rfl dX0_matchedLow_32 ?_
              refine wl_aald4 hX p kc_18 rfl (by omega) dX0_matchedLow_34 ?_
              refine wl_iload hX 4 rfl dX0_matchedLow_35 ?_
              refine wl_iald hX r (kd_112 (by omega)) rfl (by omega) dX0_matchedLow_37 ?_
              refine wl_i2l hX (v := (I (112 + p) r).toInt64) dX0_matchedLow_38 rfl ?_
              refine wl_aload_n hX 0 rfl dX0_matchedLow_39 ?_
              refine wl_iload hX 3 rfl dX0_matchedLow_40 ?_
              refine wl_iload hX 4 rfl dX0_matchedLow_42 ?_
              refine wl_iload_n hX 1 rfl dX0_matchedLow_44 ?_
              refine wl_cVl hX (c_X0_fineProduct hi I J p r j (by omega) (by omega) hj) mv_X0_fineProduct tb_410 (by decide) rfl rfl rfl rfl (by omega) (Nat.le_of_ble_eq_true rfl) dX0_matchedLow_45 ?_
              refine wl_cSl hX (c_X0_root hi I J (fineF (gC I) p r j)) mv_X0_root tb_415 rfl rfl (by omega) (Nat.le_of_ble_eq_true rfl) dX0_matchedLow_48 ?_
              refine wl_lmul hX dX0_matchedLow_51 ?_
              refine wl_ladd hX dX0_matchedLow_52 ?_
              refine wl_lstore_n hX (lv' := [(2, .long ((accF ((lowF (gC I) (bC I) j) p) r (triF (lowF (gC I) (bC I) j) p)) + (((I (112 + p) r).toInt64) * (rootF (fineF (gC I) p r j))))), (0, .ref (ad 4)), (1, .int (nI j)), (4, .int (nI p)), (5, .int (nI r))]) rfl (by decide) dX0_matchedLow_53 ?_
              refine wl_iinc hX (v := nI (r + 1)) (lv' := [(5, .int (nI (r + 1))), (2, .long ((accF ((lowF (gC I) (bC I) j) p) r (triF (lowF (gC I) (bC I) j) p)) + (((I (112 + p) r).toInt64) * (rootF (fineF (gC I) p r j))))), (0, .ref (ad 4)), (1, .int (nI j)), (4, .int (nI p))]) 4 rfl (nI_1 _) rfl (by decide) dX0_matchedLow_54 ?_
              refine wl_goto hX (tgt := 20) dX0_matchedLow_57 (by decide) ?_
              refine wl_sub hX [2, 3, 1, 4, 0] rfl ?_
              exact ihM (r + 1) (by omega) (by omega)
        exact M (p + 1) 0 (by omega) (by omega)
  exact L (P + 1) 0 (by omega) (by omega)

set_option maxHeartbeats 400000 in
theorem c_X0_matchedUndamped {l : Launch} {D : va_G} {ad : Nat → Nat} {cy : Nat → ClassId} (hi : hx_inj ad) (I : MI) (J : MJ) (j : Nat) (hj : j < 6) (P : Nat) (hP : I 1 0 = nI P) (hP12 : P ≤ 12) : Ct l D ad cy yX0_matchedUndamped cX0_matchedUndamped 6 (some .long) 1 [.ref (ad 4), .int (nI j)] I J (hx_is (some (.long (mWholeF (gC I) P j))) I J) := by
  refine ct_start hi (by decide +kernel) (Nat.le_of_ble_eq_true rfl) (fun X hX hT => ?_)
  show X 0 [(0, .ref (ad 4)), (1, .int (nI j))] [] I J
  refine wl_lconst hX (v := 0) dX0_matchedUndamped_0 (by decide) ?_
  refine wl_lstore_n hX (lv' := [(2, .long 0), (0, .ref (ad 4)), (1, .int (nI j))]) rfl (by decide) dX0_matchedUndamped_1 ?_
  refine wl_iconst hX (v := 0) dX0_matchedUndamped_2 (by decide) ?_
  refine wl_istore hX (lv' := [(4, .int 0), (2, .long 0), (0, .ref (ad 4)), (1, .int (nI j))]) rfl (by decide) dX0_matchedUndamped_3 ?_
  refine wl_sub hX [2, 3, 1, 0] rfl ?_
  have L : ∀ (k p : Nat), p ≤ P → P - p < k → X 5 [(0, .ref (ad 4)), (1, .int (nI j)), (2, .long (triF (wholeF (gC I) j) p)), (4, .int (nI p))] [] I J := by
    intro k
    induction k with
    | zero => exact fun _  _ h => absurd h (Nat.not_lt_zero _)
    | succ k ihL =>
      intro p  hpn hpk
      refine wl_iload hX 3 rfl dX0_matchedUndamped_5 ?_
      refine wl_aload_n hX 0 rfl dX0_matchedUndamped_7 ?_
      refine gf_X0_0 hX tb_170 dX0_matchedUndamped_8 ?_
      refine gf_X1_0 hX tb_52 dX0_matchedUndamped_11 ?_
      refine wl_eqi (y := nI P) hP ?_
      refine wl_icmp_ge hX (tgt := 58) dX0_matchedUndamped_14 (by decide) (fun hpc => ?_) (fun hpc => ?_)
      · have hpe : p = P := by
          have h9 := (nI_leI (by omega) (by omega)).mp hpc
          omega
        refine wl_ldc2 hX tb_419 dX0_matchedUndamped_58 ?_
        refine wl_lload_n hX 2 rfl dX0_matchedUndamped_61 ?_
        refine wl_lmul hX dX0_matchedUndamped_62 ?_
        refine wl_ldc2 hX tb_420 dX0_matchedUndamped_63 ?_
        refine wl_ldiv hX dX0_matchedUndamped_66 (by decide) ?_
        exact wl_lreturn hT dX0_matchedUndamped_67 (hx_rl (by rw [hpe]; rfl))
      · have hp1 : p < P := Nat.lt_of_not_le (fun z => hpc ((nI_leI (by omega) (by omega)).mpr z))
        refine wl_iconst hX (v := 0) dX0_matchedUndamped_17 (by decide) ?_
        refine wl_istore hX (lv' := [(5, .int 0), (0, .ref (ad 4)), (1, .int (nI j)), (2, .long (triF (wholeF (gC I) j) p)), (4, .int (nI p))]) rfl (by decide) dX0_matchedUndamped_18 ?_
        refine wl_sub hX [1, 2, 3, 4, 0] rfl ?_
        have M : ∀ (k r : Nat), r ≤ p → p - r < k → X 20 [(0, .ref (ad 4)), (1, .int (nI j)), (2, .long (accF ((wholeF (gC I) j) p) r (triF (wholeF (gC I) j) p))), (4, .int (nI p)), (5, .int (nI r))] [] I J := by
          intro k
          induction k with
          | zero => exact fun _  _ h => absurd h (Nat.not_lt_zero _)
          | succ k ihM =>
            intro r  hrn hrk
            refine wl_iload hX 4 rfl dX0_matchedUndamped_20 ?_
            refine wl_iload hX 3 rfl dX0_matchedUndamped_22 ?_
            refine wl_icmp_ge hX (tgt := 52) dX0_matchedUndamped_24 (by decide) (fun hrc => ?_) (fun hrc => ?_)
            · have hre : r = p := by
                have h9 := (nI_leI (by omega) (by omega)).mp hrc
                omega
              rw [hre]
              refine wl_iinc hX (v := nI (p + 1)) (lv' := [(4, .int (nI (p + 1))), (0, .ref (ad 4)), (1, .int (nI j)), (2, .long (accF ((wholeF (gC I) j) p) p (triF (wholeF (gC I) j) p))), (5, .int (nI p))]) 3 rfl (nI_1 _) rfl (by decide) dX0_matchedUndamped_52 ?_
              refine wl_goto hX (tgt := 5) dX0_matchedUndamped_55 (by decide) ?_
              refine wl_sub hX [1, 2, 3, 0] rfl ?_
              exact ihL (p + 1) (by omega) (by omega)
            · have hr1 : r < p := Nat.lt_of_not_le (fun z => hrc ((nI_leI (by omega) (by omega)).mpr z))
              refine wl_lload_n hX 2 rfl dX0_matchedUndamped_27 ?_
              refine wl_ldc2 hX tb_446 dX0_matchedUndamped_28 ?_
              refine wl_aload_n hX 0 rfl dX0_matchedUndamped_31 ?_
              refine wl_iload hX 3 rfl dX0_matchedUndamped_32 ?_
              refine wl_iload hX 4 rfl dX0_matchedUndamped_34 ?_
              refine wl_iload_n hX 1 rfl dX0_matchedUndamped_36 ?_
              refine wl_cVl hX (c_X0_fineProduct hi I J p r j (by omega) (by omega) hj) mv_X0_fineProduct tb_410 (by decide) rfl rfl rfl rfl (by omega) (Nat.le_of_ble_eq_true rfl) dX0_matchedUndamped_37 ?_
              refine wl_cSl hX (c_X0_root hi I J (fineF (gC I) p r j)) mv_X0_root tb_415 rfl rfl (by omega) (Nat.le_of_ble_eq_true rfl) dX0_matchedUndamped_40 ?_
              refine wl_lmul hX dX0_matchedUndamped_43 ?_
              refine wl_ladd hX dX0_matchedUndamped_44 ?_
              refine wl_lstore_n hX (lv' := [(2, .long ((accF ((wholeF (gC I) j) p) r (triF (wholeF (gC I) j) p)) + (1000 * (rootF (fineF (gC I) p r j))))), (0, .ref (ad 4)), (1, .int (nI j)), (4, .int (nI p)), (5, .int (nI r))]) rfl (by decide) dX0_matchedUndamped_45 ?_
              refine wl_iinc hX (v := nI (r + 1)) (lv' := [(5, .int (nI (r + 1))), (2, .long ((accF ((wholeF (gC I) j) p) r (triF (wholeF (gC I) j) p)) + (1000 * (rootF (fineF (gC I) p r j))))), (0, .ref (ad 4)), (1, .int (nI j)), (4, .int (nI p))]) 4 rfl (nI_1 _) rfl (by decide) dX0_matchedUndamped_46 ?_
              refine wl_goto hX (tgt := 20) dX0_matchedUndamped_49 (by decide) ?_
              refine wl_sub hX [2, 3, 1, 4, 0] rfl ?_
              exact ihM (r + 1) (by omega) (by omega)
        exact M (p + 1) 0 (by omega) (by omega)
  exact L (P + 1) 0 (by omega) (by omega)

set_option maxHeartbeats 400000 in
theorem c_X0_matchedHigh {l : Launch} {D : va_G} {ad : Nat → Nat} {cy : Nat → ClassId} (hi : hx_inj ad) (I : MI) (J : MJ) (j : Nat) (hj : j < 6) (P : Nat) (hP : I 1 0 = nI P) (hP12 : P ≤ 12) : Ct l D ad cy yX0_matchedHigh cX0_matchedHigh 6 (some .long) 2 [.ref (ad 4), .int (nI j)] I J (hx_is (some (.long (mHighF (gC I) (bC I) P j))) I J) := by
  refine ct_start hi (by decide +kernel) (Nat.le_of_ble_eq_true rfl) (fun X hX hT => ?_)
  show X 0 [(0, .ref (ad 4)), (1, .int (nI j))] [] I J
  refine wl_lconst hX (v := 0) dX0_matchedHigh_0 (by decide) ?_
  refine wl_lstore_n hX (lv' := [(2, .long 0), (0, .ref (ad 4)), (1, .int (nI j))]) rfl (by decide) dX0_matchedHigh_1 ?_
  refine wl_iconst hX (v := 0) dX0_matchedHigh_2 (by decide) ?_
  refine wl_istore hX (lv' := [(4, .int 0), (2, .long 0), (0, .ref (ad 4)), (1, .int (nI j))]) rfl (by decide) dX0_matchedHigh_3 ?_
  refine wl_sub hX [2, 3, 1, 0] rfl ?_
  have L : ∀ (k p : Nat), p ≤ P → P - p < k → X 5 [(0, .ref (ad 4)), (1, .int (nI j)), (2, .long (triF (highF (gC I) (bC I) j) p)), (4, .int (nI p))] [] I J := by
    intro k
    induction k with
    | zero => exact fun _  _ h => absurd h (Nat.not_lt_zero _)
    | succ k ihL =>
      intro p  hpn hpk
      refine wl_iload hX 3 rfl dX0_matchedHigh_5 ?_
      refine wl_aload_n hX 0 rfl dX0_matchedHigh_7 ?_
      refine gf_X0_0 hX tb_170 dX0_matchedHigh_8 ?_
      refine gf_X1_0 hX tb_52 dX0_matchedHigh_11 ?_
      refine wl_eqi (y := nI P) hP ?_
      refine wl_icmp_ge hX (tgt := 66) dX0_matchedHigh_14 (by decide) (fun hpc => ?_) (fun hpc => ?_)
      · have hpe : p = P := by
          have h9 := (nI_leI (by omega) (by omega)).mp hpc
          omega
        refine wl_ldc2 hX tb_419 dX0_matchedHigh_66 ?_
        refine wl_lload_n hX 2 rfl dX0_matchedHigh_69 ?_
        refine wl_lmul hX dX0_matchedHigh_70 ?_
        refine wl_ldc2 hX tb_420 dX0_matchedHigh_71 ?_
        refine wl_ladd hX dX0_matchedHigh_74 ?_
        refine wl_lconst hX (v := 1) dX0_matchedHigh_75 (by decide) ?_
        refine wl_lsub hX dX0_matchedHigh_76 ?_
        refine wl_ldc2 hX tb_420 dX0_matchedHigh_77 ?_
        refine wl_ldiv hX dX0_matchedHigh_80 (by decide) ?_
        exact wl_lreturn hT dX0_matchedHigh_81 (hx_rl (by rw [hpe]; rfl))
      · have hp1 : p < P := Nat.lt_of_not_le (fun z => hpc ((nI_leI (by omega) (by omega)).mpr z))
        refine wl_iconst hX (v := 0) dX0_matchedHigh_17 (by decide) ?_
        refine wl_istore hX (lv' := [(5, .int 0), (0, .ref (ad 4)), (1, .int (nI j)), (2, .long (triF (highF (gC I) (bC I) j) p)), (4, .int (nI p))]) rfl (by decide) dX0_matchedHigh_18 ?_
        refine wl_sub hX [1, 2, 3, 4, 0] rfl ?_
        have M : ∀ (k r : Nat), r ≤ p → p - r < k → X 20 [(0, .ref (ad 4)), (1, .int (nI j)), (2, .long (accF ((highF (gC I) (bC I) j) p) r (triF (highF (gC I) (bC I) j) p))), (4, .int (nI p)), (5, .int (nI r))] [] I J := by
          intro k
          induction k with
          | zero => exact fun _  _ h => absurd h (Nat.not_lt_zero _)
          | succ k ihM =>
            intro r  hrn hrk
            refine wl_iload hX 4 rfl dX0_matchedHigh_20 ?_
            refine wl_iload hX 3 rfl dX0_matchedHigh_22 ?_
            refine wl_icmp_ge hX (tgt := 60) dX0_matchedHigh_24 (by decide) (fun hrc => ?_) (fun hrc => ?_)
            · have hre : r = p := by
                have h9 := (nI_leI (by omega) (by omega)).mp hrc
                omega
              rw [hre]
              refine wl_iinc hX (v := nI (p + 1)) (lv' := [(4, .int (nI (p + 1))), (0, .ref (ad 4)), (1, .int (nI j)), (2, .long (accF ((highF (gC I) (bC I) j) p) p (triF (highF (gC I) (bC I) j) p))), (5, .int (nI p))]) 3 rfl (nI_1 _) rfl (by decide) dX0_matchedHigh_60 ?_
              refine wl_goto hX (tgt := 5) dX0_matchedHigh_63 (by decide) ?_
              refine wl_sub hX [1, 2, 3, 0] rfl ?_
              exact ihL (p + 1) (by omega) (by omega)
            · have hr1 : r < p := Nat.lt_of_not_le (fun z => hrc ((nI_leI (by omega) (by omega)).mpr z))
              refine wl_lload_n hX 2 rfl dX0_matchedHigh_27 ?_
              refine wl_aload_n hX 0 rfl dX0_matchedHigh_28 ?_
              refine gf_X0_3 hX tb_175 dX0_matchedHigh_29 ?_
              refine wl_iload hX 3 rfl dX0_matchedHigh_32 ?_
              refine wl_aald4 hX p kc_18 rfl (by omega) dX0_matchedHigh_34 ?_
              refine wl_iload hX 4 rfl dX0_matchedHigh_35 ?_
              refine wl_iald hX r (kd_112 (by omega)) rfl (by omega) dX0_matchedHigh_37 ?_
              refine wl_i2l hX (v := (I (112 + p) r).toInt64) dX0_matchedHigh_38 rfl ?_
              refine wl_aload_n hX 0 rfl dX0_matchedHigh_39 ?_
              refine wl_iload hX 3 rfl dX0_matchedHigh_40 ?_
              refine wl_iload hX 4 rfl dX0_matchedHigh_42 ?_
              refine wl_iload_n hX 1 rfl dX0_matchedHigh_44 ?_
              refine wl_cVl hX (c_X0_fineProduct hi I J p r j (by omega) (by omega) hj) mv_X0_fineProduct tb_410 (by decide) rfl rfl rfl rfl (by omega) (Nat.le_of_ble_eq_true rfl) dX0_matchedHigh_45 ?_
              refine wl_cSl hX (c_X0_rootAbove hi I J (fineF (gC I) p r j)) mv_X0_rootAbove tb_425 rfl rfl (by omega) (Nat.le_of_ble_eq_true rfl) dX0_matchedHigh_48 ?_
              refine wl_lmul hX dX0_matchedHigh_51 ?_
              refine wl_ladd hX dX0_matchedHigh_52 ?_
              refine wl_lstore_n hX (lv' := [(2, .long ((accF ((highF (gC I) (bC I) j) p) r (triF (highF (gC I) (bC I) j) p)) + (((I (112 + p) r).toInt64) * (rootAF (fineF (gC I) p r j))))), (0, .ref (ad 4)), (1, .int (nI j)), (4, .int (nI p)), (5, .int (nI r))]) rfl (by decide) dX0_matchedHigh_53 ?_
              refine wl_iinc hX (v := nI (r + 1)) (lv' := [(5, .int (nI (r + 1))), (2, .long ((accF ((highF (gC I) (bC I) j) p) r (triF (highF (gC I) (bC I) j) p)) + (((I (112 + p) r).toInt64) * (rootAF (fineF (gC I) p r j))))), (0, .ref (ad 4)), (1, .int (nI j)), (4, .int (nI p))]) 4 rfl (nI_1 _) rfl (by decide) dX0_matchedHigh_54 ?_
              refine wl_goto hX (tgt := 20) dX0_matchedHigh_57 (by decide) ?_
              refine wl_sub hX [2, 3, 1, 4, 0] rfl ?_
              exact ihM (r + 1) (by omega) (by omega)
        exact M (p + 1) 0 (by omega) (by omega)
  exact L (P + 1) 0 (by omega) (by omega)

set_option maxHeartbeats 400000 in
theorem c_X0_digestPerson {l : Launch} {D : va_G} {ad : Nat → Nat} {cy : Nat → ClassId} (hi : hx_inj ad) (I : MI) (J : MJ) (z : Int64) (p : Nat) (hp : p < 12) (R : Nat) (hR : I 4 1 = nI R) (hR6 : R ≤ 6) : Ct l D ad cy yX0_digestPerson cX0_digestPerson 7 (some .long) 0 [.ref (ad 4), .long z, .int (nI p)] I J (hx_is (some (.long (dgFF (gC I p) (bC I p) R p z))) I J) := by
  refine ct_start hi (by decide +kernel) (Nat.le_of_ble_eq_true rfl) (fun X hX hT => ?_)
  show X 0 [(0, .ref (ad 4)), (1, .long z), (3, .int (nI p))] [] I J
  refine wl_lload_n hX 1 rfl dX0_digestPerson_0 ?_
  refine wl_lstore hX (lv' := [(4, .long z), (0, .ref (ad 4)), (1, .long z), (3, .int (nI p))]) rfl (by decide) dX0_digestPerson_1 ?_
  refine wl_iconst hX (v := 0) dX0_digestPerson_3 (by decide) ?_
  refine wl_istore hX (lv' := [(6, .int 0), (4, .long z), (0, .ref (ad 4)), (1, .long z), (3, .int (nI p))]) rfl (by decide) dX0_digestPerson_4 ?_
  refine wl_sub hX [2, 3, 4, 1, 0] rfl ?_
  have L : ∀ (k q : Nat), q ≤ R → R - q < k → X 6 [(0, .ref (ad 4)), (1, .long z), (3, .int (nI p)), (4, .long (chF (gC I p) q z)), (6, .int (nI q))] [] I J := by
    intro k
    induction k with
    | zero => exact fun _  _ h => absurd h (Nat.not_lt_zero _)
    | succ k ihL =>
      intro q  hqn hqk
      refine wl_iload hX 4 rfl dX0_digestPerson_6 ?_
      refine wl_aload_n hX 0 rfl dX0_digestPerson_8 ?_
      refine gf_X0_1 hX tb_171 dX0_digestPerson_9 ?_
      refine wl_eqi (y := nI R) hR ?_
      refine wl_icmp_ge hX (tgt := 40) dX0_digestPerson_12 (by decide) (fun hqc => ?_) (fun hqc => ?_)
      · have hqe : q = R := by
          have h9 := (nI_leI (by omega) (by omega)).mp hqc
          omega
        rw [hqe]
        refine wl_iconst hX (v := 0) dX0_digestPerson_40 (by decide) ?_
        refine wl_istore hX (lv' := [(6, .int 0), (0, .ref (ad 4)), (1, .long z), (3, .int (nI p)), (4, .long (chF (gC I p) R z))]) rfl (by decide) dX0_digestPerson_41 ?_
        refine wl_sub hX [1, 2, 3, 4, 0] rfl ?_
        have M : ∀ (k r : Nat), r ≤ p → p - r < k → X 43 [(0, .ref (ad 4)), (1, .long z), (3, .int (nI p)), (4, .long (chF (bC I p) r (chF (gC I p) R z))), (6, .int (nI r))] [] I J := by
          intro k
          induction k with
          | zero => exact fun _  _ h => absurd h (Nat.not_lt_zero _)
          | succ k ihM =>
            intro r  hrn hrk
            refine wl_iload hX 4 rfl dX0_digestPerson_43 ?_
            refine wl_iload_n hX 2 rfl dX0_digestPerson_45 ?_
            refine wl_icmp_ge hX (tgt := 74) dX0_digestPerson_46 (by decide) (fun hrc => ?_) (fun hrc => ?_)
            · have hre : r = p := by
                have h9 := (nI_leI (by omega) (by omega)).mp hrc
                omega
              refine wl_lload hX 3 rfl dX0_digestPerson_74 ?_
              exact wl_lreturn hT dX0_digestPerson_76 (hx_rl (by rw [hre]; rfl))
            · have hr1 : r < p := Nat.lt_of_not_le (fun z => hrc ((nI_leI (by omega) (by omega)).mpr z))
              refine wl_ldc2 hX tb_492 dX0_digestPerson_49 ?_
              refine wl_lload hX 3 rfl dX0_digestPerson_52 ?_
              refine wl_lmul hX dX0_digestPerson_54 ?_
              refine wl_aload_n hX 0 rfl dX0_digestPerson_55 ?_
              refine gf_X0_3 hX tb_175 dX0_digestPerson_56 ?_
              refine wl_iload_n hX 2 rfl dX0_digestPerson_59 ?_
              refine wl_aald4 hX p kc_18 rfl (by omega) dX0_digestPerson_60 ?_
              refine wl_iload hX 4 rfl dX0_digestPerson_61 ?_
              refine wl_iald hX r (kd_112 (by omega)) rfl (by omega) dX0_digestPerson_63 ?_
              refine wl_i2l hX (v := (I (112 + p) r).toInt64) dX0_digestPerson_64 rfl ?_
              refine wl_ladd hX dX0_digestPerson_65 ?_
              refine wl_lstore hX (lv' := [(4, .long ((31 * (chF (bC I p) r (chF (gC I p) R z))) + ((I (112 + p) r).toInt64))), (0, .ref (ad 4)), (1, .long z), (3, .int (nI p)), (6, .int (nI r))]) rfl (by decide) dX0_digestPerson_66 ?_
              refine wl_iinc hX (v := nI (r + 1)) (lv' := [(6, .int (nI (r + 1))), (4, .long ((31 * (chF (bC I p) r (chF (gC I p) R z))) + ((I (112 + p) r).toInt64))), (0, .ref (ad 4)), (1, .long z), (3, .int (nI p))]) 4 rfl (nI_1 _) rfl (by decide) dX0_digestPerson_68 ?_
              refine wl_goto hX (tgt := 43) dX0_digestPerson_71 (by decide) ?_
              refine wl_sub hX [2, 3, 4, 1, 0] rfl ?_
              exact ihM (r + 1) (by omega) (by omega)
        exact M (p + 1) 0 (by omega) (by omega)
      · have hq1 : q < R := Nat.lt_of_not_le (fun z => hqc ((nI_leI (by omega) (by omega)).mpr z))
        refine wl_ldc2 hX tb_492 dX0_digestPerson_15 ?_
        refine wl_lload hX 3 rfl dX0_digestPerson_18 ?_
        refine wl_lmul hX dX0_digestPerson_20 ?_
        refine wl_aload_n hX 0 rfl dX0_digestPerson_21 ?_
        refine gf_X0_2 hX tb_173 dX0_digestPerson_22 ?_
        refine wl_iload_n hX 2 rfl dX0_digestPerson_25 ?_
        refine wl_aald4 hX p kc_17 rfl (by omega) dX0_digestPerson_26 ?_
        refine wl_iload hX 4 rfl dX0_digestPerson_27 ?_
        refine wl_iald hX q (kd_100 (by omega)) rfl (by omega) dX0_digestPerson_29 ?_
        refine wl_i2l hX (v := (I (100 + p) q).toInt64) dX0_digestPerson_30 rfl ?_
        refine wl_ladd hX dX0_digestPerson_31 ?_
        refine wl_lstore hX (lv' := [(4, .long ((31 * (chF (gC I p) q z)) + ((I (100 + p) q).toInt64))), (0, .ref (ad 4)), (1, .long z), (3, .int (nI p)), (6, .int (nI q))]) rfl (by decide) dX0_digestPerson_32 ?_
        refine wl_iinc hX (v := nI (q + 1)) (lv' := [(6, .int (nI (q + 1))), (4, .long ((31 * (chF (gC I p) q z)) + ((I (100 + p) q).toInt64))), (0, .ref (ad 4)), (1, .long z), (3, .int (nI p))]) 4 rfl (nI_1 _) rfl (by decide) dX0_digestPerson_34 ?_
        refine wl_goto hX (tgt := 6) dX0_digestPerson_37 (by decide) ?_
        refine wl_sub hX [2, 3, 4, 1, 0] rfl ?_
        exact ihL (q + 1) (by omega) (by omega)
  exact L (R + 1) 0 (by omega) (by omega)

set_option maxHeartbeats 400000 in
theorem c_X0_shareOf {l : Launch} {D : va_G} {ad : Nat → Nat} {cy : Nat → ClassId} (hi : hx_inj ad) (I : MI) (J : MJ) (j : Nat) (pot : Int64) (P : Nat) (hP : I 1 0 = nI P) (hP12 : P ≤ 12) (R : Nat) (hR : I 4 1 = nI R) (hR6 : R ≤ 6) (hj : j < R) : Ct l D ad cy yX0_shareOf cX0_shareOf 14 (some .long) 2 [.ref (ad 4), .int (nI j), .long pot] I J (hx_is (some (.long (shareF (mLowF (gC I) (bC I) P) R j pot))) I (lwJ J 19 (mLowF (gC I) (bC I) P) R)) := by
  refine ct_start hi (by decide +kernel) (Nat.le_of_ble_eq_true rfl) (fun X hX hT => ?_)
  show X 0 [(0, .ref (ad 4)), (1, .int (nI j)), (2, .long pot)] [] I J
  refine wl_lconst hX (v := 0) dX0_shareOf_0 (by decide) ?_
  refine wl_lstore hX (lv' := [(4, .long 0), (0, .ref (ad 4)), (1, .int (nI j)), (2, .long pot)]) rfl (by decide) dX0_shareOf_1 ?_
  refine wl_iconst hX (v := 0) dX0_shareOf_3 (by decide) ?_
  refine wl_istore hX (lv' := [(6, .int 0), (4, .long 0), (0, .ref (ad 4)), (1, .int (nI j)), (2, .long pot)]) rfl (by decide) dX0_shareOf_4 ?_
  refine wl_sub hX [2, 3, 4, 1, 0] rfl ?_
  have L : ∀ (k i : Nat), i ≤ R → R - i < k → X 6 [(0, .ref (ad 4)), (1, .int (nI j)), (2, .long pot), (4, .long (sJ (mLowF (gC I) (bC I) P) i)), (6, .int (nI i))] [] I (lwJ J 19 (mLowF (gC I) (bC I) P) i) := by
    intro k
    induction k with
    | zero => exact fun _  _ h => absurd h (Nat.not_lt_zero _)
    | succ k ihL =>
      intro i  hin hik
      refine wl_iload hX 4 rfl dX0_shareOf_6 ?_
      refine wl_aload_n hX 0 rfl dX0_shareOf_8 ?_
      refine gf_X0_1 hX tb_171 dX0_shareOf_9 ?_
      refine wl_eqi (y := nI R) hR ?_
      refine wl_icmp_ge hX (tgt := 46) dX0_shareOf_12 (by decide) (fun hic => ?_) (fun hic => ?_)
      · have hie : i = R := by
          have h9 := (nI_leI (by omega) (by omega)).mp hic
          omega
        rw [hie]
        refine wl_lload hX 3 rfl dX0_shareOf_46 ?_
        refine wl_lconst hX (v := 0) dX0_shareOf_48 (by decide) ?_
        refine wl_lif_gt hX (tgt := 55) dX0_shareOf_49 dX0_shareOf_50 (by decide) (fun h1 => ?_) (fun h1 => ?_)
        · refine wl_lload_n hX 2 rfl dX0_shareOf_55 ?_
          refine wl_aload_n hX 0 rfl dX0_shareOf_56 ?_
          refine gf_X0_4 hX tb_177 dX0_shareOf_57 ?_
          refine wl_iload_n hX 1 rfl dX0_shareOf_60 ?_
          refine wl_lald hX j kc_19 rfl (by omega) dX0_shareOf_61 ?_
          refine wl_eql (y := mLowF (gC I) (bC I) P j) (lwJ_at J 19 (mLowF (gC I) (bC I) P) R j hj) ?_
          refine wl_lmul hX dX0_shareOf_62 ?_
          refine wl_lload hX 3 rfl dX0_shareOf_63 ?_
          refine wl_lrem hX dX0_shareOf_65 (hx_ne0 h1) ?_
          refine wl_eql (y := remF (pot * (mLowF (gC I) (bC I) P j)) (sJ (mLowF (gC I) (bC I) P) R)) rfl ?_
          refine wl_lstore hX (lv' := [(6, .long (remF (pot * (mLowF (gC I) (bC I) P j)) (sJ (mLowF (gC I) (bC I) P) R))), (0, .ref (ad 4)), (1, .int (nI j)), (2, .long pot), (4, .long (sJ (mLowF (gC I) (bC I) P) R))]) rfl (by decide) dX0_shareOf_66 ?_
          refine wl_lload_n hX 3 rfl dX0_shareOf_68 ?_
          refine wl_lstore hX (lv' := [(8, .long pot), (6, .long (remF (pot * (mLowF (gC I) (bC I) P j)) (sJ (mLowF (gC I) (bC I) P) R))), (0, .ref (ad 4)), (1, .int (nI j)), (2, .long pot), (4, .long (sJ (mLowF (gC I) (bC I) P) R))]) rfl (by decide) dX0_shareOf_69 ?_
          refine wl_iconst hX (v := 0) dX0_shareOf_71 (by decide) ?_
          refine wl_istore hX (lv' := [(10, .int 0), (8, .long pot), (6, .long (remF (pot * (mLowF (gC I) (bC I) P j)) (sJ (mLowF (gC I) (bC I) P) R))), (0, .ref (ad 4)), (1, .int (nI j)), (2, .long pot), (4, .long (sJ (mLowF (gC I) (bC I) P) R))]) rfl (by decide) dX0_shareOf_72 ?_
          refine wl_iconst hX (v := 0) dX0_shareOf_74 (by decide) ?_
          refine wl_istore hX (lv' := [(11, .int 0), (10, .int 0), (8, .long pot), (6, .long (remF (pot * (mLowF (gC I) (bC I) P j)) (sJ (mLowF (gC I) (bC I) P) R))), (0, .ref (ad 4)), (1, .int (nI j)), (2, .long pot), (4, .long (sJ (mLowF (gC I) (bC I) P) R))]) rfl (by decide) dX0_shareOf_75 ?_
          refine wl_sub hX [4, 5, 6, 7, 3, 2, 1, 0] rfl ?_
          have M : ∀ (k i : Nat), i ≤ R → R - i < k → X 77 [(0, .ref (ad 4)), (1, .int (nI j)), (2, .long pot), (4, .long (sJ (mLowF (gC I) (bC I) P) R)), (6, .long (remF (pot * (mLowF (gC I) (bC I) P j)) (sJ (mLowF (gC I) (bC I) P) R))), (8, .long (lackF (mLowF (gC I) (bC I) P) (sJ (mLowF (gC I) (bC I) P) R) pot i)), (10, .int (servF (mLowF (gC I) (bC I) P) (sJ (mLowF (gC I) (bC I) P) R) pot j i)), (11, .int (nI i))] [] I (lwJ J 19 (mLowF (gC I) (bC I) P) R) := by
            intro k
            induction k with
            | zero => exact fun _  _ h => absurd h (Nat.not_lt_zero _)
            | succ k ihM =>
              intro i  hin hik
              refine wl_iload hX 7 rfl dX0_shareOf_77 ?_
              refine wl_aload_n hX 0 rfl dX0_shareOf_79 ?_
              refine gf_X0_1 hX tb_171 dX0_shareOf_80 ?_
              refine wl_eqi (y := nI R) hR ?_
              refine wl_icmp_ge hX (tgt := 148) dX0_shareOf_83 (by decide) (fun hic => ?_) (fun hic => ?_)
              · have hie : i = R := by
                  have h9 := (nI_leI (by omega) (by omega)).mp hic
                  omega
                rw [hie]
                refine wl_lload_n hX 2 rfl dX0_shareOf_148 ?_
                refine wl_aload_n hX 0 rfl dX0_shareOf_149 ?_
                refine gf_X0_4 hX tb_177 dX0_shareOf_150 ?_
                refine wl_iload_n hX 1 rfl dX0_shareOf_153 ?_
                refine wl_lald hX j kc_19 rfl (by omega) dX0_shareOf_154 ?_
                refine wl_eql (y := mLowF (gC I) (bC I) P j) (lwJ_at J 19 (mLowF (gC I) (bC I) P) R j hj) ?_
                refine wl_lmul hX dX0_shareOf_155 ?_
                refine wl_lload hX 3 rfl dX0_shareOf_156 ?_
                refine wl_ldiv hX dX0_shareOf_158 (hx_ne0 h1) ?_
                refine wl_lstore hX (lv' := [(11, .long ((pot * (mLowF (gC I) (bC I) P j)) / (sJ (mLowF (gC I) (bC I) P) R))), (0, .ref (ad 4)), (1, .int (nI j)), (2, .long pot), (4, .long (sJ (mLowF (gC I) (bC I) P) R)), (6, .long (remF (pot * (mLowF (gC I) (bC I) P j)) (sJ (mLowF (gC I) (bC I) P) R))), (8, .long (lackF (mLowF (gC I) (bC I) P) (sJ (mLowF (gC I) (bC I) P) R) pot R)), (10, .int (servF (mLowF (gC I) (bC I) P) (sJ (mLowF (gC I) (bC I) P) R) pot j R))]) rfl (by decide) dX0_shareOf_159 ?_
                refine wl_iload hX 7 rfl dX0_shareOf_161 ?_
                refine wl_i2l hX (v := (servF (mLowF (gC I) (bC I) P) (sJ (mLowF (gC I) (bC I) P) R) pot j R).toInt64) dX0_shareOf_163 rfl ?_
                refine wl_lload hX 6 rfl dX0_shareOf_164 ?_
                refine wl_lif_ge hX (tgt := 177) dX0_shareOf_166 dX0_shareOf_167 (by decide) (fun h7 => ?_) (fun h7 => ?_)
                · refine wl_lload hX 0 rfl dX0_shareOf_177 ?_
                  exact wl_lreturn hT dX0_shareOf_179 (hx_rl (by unfold shareF; rw [if_pos h1, if_neg (fun z => by rw [Int64.lt_iff_toInt_lt] at z; rw [Int64.le_iff_toInt_le] at h7; omega)]))
                · refine wl_lload hX 0 rfl dX0_shareOf_170 ?_
                  refine wl_lconst hX (v := 1) dX0_shareOf_172 (by decide) ?_
                  refine wl_ladd hX dX0_shareOf_173 ?_
                  refine wl_goto hX (tgt := 179) dX0_shareOf_174 (by decide) ?_
                  exact wl_lreturn hT dX0_shareOf_179 (hx_rl (by unfold shareF; rw [if_pos h1, if_pos (by rw [Int64.le_iff_toInt_le] at h7; rw [Int64.lt_iff_toInt_lt]; omega)]))
              · have hi1 : i < R := Nat.lt_of_not_le (fun z => hic ((nI_leI (by omega) (by omega)).mpr z))
                refine wl_lload hX 5 rfl dX0_shareOf_86 ?_
                refine wl_lload_n hX 2 rfl dX0_shareOf_88 ?_
                refine wl_aload_n hX 0 rfl dX0_shareOf_89 ?_
                refine gf_X0_4 hX tb_177 dX0_shareOf_90 ?_
                refine wl_iload hX 7 rfl dX0_shareOf_93 ?_
                refine wl_lald hX i kc_19 rfl (by omega) dX0_shareOf_95 ?_
                refine wl_eql (y := mLowF (gC I) (bC I) P i) (lwJ_at J 19 (mLowF (gC I) (bC I) P) R i (by omega)) ?_
                refine wl_lmul hX dX0_shareOf_96 ?_
                refine wl_lload hX 3 rfl dX0_shareOf_97 ?_
                refine wl_ldiv hX dX0_shareOf_99 (hx_ne0 h1) ?_
                refine wl_lsub hX dX0_shareOf_100 ?_
                refine wl_lstore hX (lv' := [(8, .long ((lackF (mLowF (gC I) (bC I) P) (sJ (mLowF (gC I) (bC I) P) R) pot i) - ((pot * (mLowF (gC I) (bC I) P i)) / (sJ (mLowF (gC I) (bC I) P) R)))), (0, .ref (ad 4)), (1, .int (nI j)), (2, .long pot), (4, .long (sJ (mLowF (gC I) (bC I) P) R)), (6, .long (remF (pot * (mLowF (gC I) (bC I) P j)) (sJ (mLowF (gC I) (bC I) P) R))), (10, .int (servF (mLowF (gC I) (bC I) P) (sJ (mLowF (gC I) (bC I) P) R) pot j i)), (11, .int (nI i))]) rfl (by decide) dX0_shareOf_101 ?_
                refine wl_lload_n hX 3 rfl dX0_shareOf_103 ?_
                refine wl_aload_n hX 1 rfl dX0_shareOf_104 ?_
                refine gf_X0_4 hX tb_177 dX0_shareOf_105 ?_
                refine wl_iload hX 7 rfl dX0_shareOf_108 ?_
                refine wl_lald hX i kc_19 rfl (by omega) dX0_shareOf_110 ?_
                refine wl_eql (y := mLowF (gC I) (bC I) P i) (lwJ_at J 19 (mLowF (gC I) (bC I) P) R i (by omega)) ?_
                refine wl_lmul hX dX0_shareOf_111 ?_
                refine wl_lload hX 4 rfl dX0_shareOf_112 ?_
                refine wl_lrem hX dX0_shareOf_114 (hx_ne0 h1) ?_
                refine wl_eql (y := remF (pot * (mLowF (gC I) (bC I) P i)) (sJ (mLowF (gC I) (bC I) P) R)) rfl ?_
                refine wl_lstore hX (lv' := [(12, .long (remF (pot * (mLowF (gC I) (bC I) P i)) (sJ (mLowF (gC I) (bC I) P) R))), (8, .long ((lackF (mLowF (gC I) (bC I) P) (sJ (mLowF (gC I) (bC I) P) R) pot i) - ((pot * (mLowF (gC I) (bC I) P i)) / (sJ (mLowF (gC I) (bC I) P) R)))), (0, .ref (ad 4)), (1, .int (nI j)), (2, .long pot), (4, .long (sJ (mLowF (gC I) (bC I) P) R)), (6, .long (remF (pot * (mLowF (gC I) (bC I) P j)) (sJ (mLowF (gC I) (bC I) P) R))), (10, .int (servF (mLowF (gC I) (bC I) P) (sJ (mLowF (gC I) (bC I) P) R) pot j i)), (11, .int (nI i))]) rfl (by decide) dX0_shareOf_115 ?_
                refine wl_lload hX 0 rfl dX0_shareOf_117 ?_
                refine wl_lload hX 6 rfl dX0_shareOf_119 ?_
                have e2 : servF (mLowF (gC I) (bC I) P) (sJ (mLowF (gC I) (bC I) P) R) pot j (i + 1) = servF (mLowF (gC I) (bC I) P) (sJ (mLowF (gC I) (bC I) P) R) pot j i + (if remF (pot * (mLowF (gC I) (bC I) P j)) (sJ (mLowF (gC I) (bC I) P) R) < remF (pot * (mLowF (gC I) (bC I) P i)) (sJ (mLowF (gC I) (bC I) P) R) ∨ (remF (pot * (mLowF (gC I) (bC I) P i)) (sJ (mLowF (gC I) (bC I) P) R) = remF (pot * (mLowF (gC I) (bC I) P j)) (sJ (mLowF (gC I) (bC I) P) R) ∧ i < j) then (1 : Int32) else 0) := rfl
                refine wl_lif_gt hX (tgt := 139) dX0_shareOf_121 dX0_shareOf_122 (by decide) (fun h4 => ?_) (fun h4 => ?_)
                · rw [if_pos (Or.inl h4)] at e2
                  refine wl_iinc hX (v := servF (mLowF (gC I) (bC I) P) (sJ (mLowF (gC I) (bC I) P) R) pot j (i + 1)) (lv' := [(10, .int (servF (mLowF (gC I) (bC I) P) (sJ (mLowF (gC I) (bC I) P) R) pot j (i + 1))), (12, .long (remF (pot * (mLowF (gC I) (bC I) P i)) (sJ (mLowF (gC I) (bC I) P) R))), (8, .long ((lackF (mLowF (gC I) (bC I) P) (sJ (mLowF (gC I) (bC I) P) R) pot i) - ((pot * (mLowF (gC I) (bC I) P i)) / (sJ (mLowF (gC I) (bC I) P) R)))), (0, .ref (ad 4)), (1, .int (nI j)), (2, .long pot), (4, .long (sJ (mLowF (gC I) (bC I) P) R)), (6, .long (remF (pot * (mLowF (gC I) (bC I) P j)) (sJ (mLowF (gC I) (bC I) P) R))), (11, .int (nI i))]) 7 rfl (by exact e2.symm) rfl (by decide) dX0_shareOf_139 ?_
                  refine wl_iinc hX (v := nI (i + 1)) (lv' := [(11, .int (nI (i + 1))), (10, .int (servF (mLowF (gC I) (bC I) P) (sJ (mLowF (gC I) (bC I) P) R) pot j (i + 1))), (12, .long (remF (pot * (mLowF (gC I) (bC I) P i)) (sJ (mLowF (gC I) (bC I) P) R))), (8, .long ((lackF (mLowF (gC I) (bC I) P) (sJ (mLowF (gC I) (bC I) P) R) pot i) - ((pot * (mLowF (gC I) (bC I) P i)) / (sJ (mLowF (gC I) (bC I) P) R)))), (0, .ref (ad 4)), (1, .int (nI j)), (2, .long pot), (4, .long (sJ (mLowF (gC I) (bC I) P) R)), (6, .long (remF (pot * (mLowF (gC I) (bC I) P j)) (sJ (mLowF (gC I) (bC I) P) R)))]) 8 rfl (nI_1 _) rfl (by decide) dX0_shareOf_142 ?_
                  refine wl_goto hX (tgt := 77) dX0_shareOf_145 (by decide) ?_
                  refine wl_sub hX [4, 5, 6, 7, 8, 3, 1, 0] rfl ?_
                  exact ihM (i + 1) (by omega) (by omega)
                · refine wl_lload hX 0 rfl dX0_shareOf_125 ?_
                  refine wl_lload hX 6 rfl dX0_shareOf_127 ?_
                  refine wl_lif_ne hX (tgt := 142) dX0_shareOf_129 dX0_shareOf_130 (by decide) (fun h5 => ?_) (fun h5 => ?_)
                  · rw [if_neg (fun z => z.elim h4 (fun y => h5 y.1)), i_add0] at e2
                    rw [← e2]
                    refine wl_iinc hX (v := nI (i + 1)) (lv' := [(11, .int (nI (i + 1))), (12, .long (remF (pot * (mLowF (gC I) (bC I) P i)) (sJ (mLowF (gC I) (bC I) P) R))), (8, .long ((lackF (mLowF (gC I) (bC I) P) (sJ (mLowF (gC I) (bC I) P) R) pot i) - ((pot * (mLowF (gC I) (bC I) P i)) / (sJ (mLowF (gC I) (bC I) P) R)))), (0, .ref (ad 4)), (1, .int (nI j)), (2, .long pot), (4, .long (sJ (mLowF (gC I) (bC I) P) R)), (6, .long (remF (pot * (mLowF (gC I) (bC I) P j)) (sJ (mLowF (gC I) (bC I) P) R))), (10, .int (servF (mLowF (gC I) (bC I) P) (sJ (mLowF (gC I) (bC I) P) R) pot j (i + 1)))]) 8 rfl (nI_1 _) rfl (by decide) dX0_shareOf_142 ?_
                    refine wl_goto hX (tgt := 77) dX0_shareOf_145 (by decide) ?_
                    refine wl_sub hX [3, 4, 5, 6, 7, 2, 8, 0] rfl ?_
                    exact ihM (i + 1) (by omega) (by omega)
                  · refine wl_iload hX 8 rfl dX0_shareOf_133 ?_
                    refine wl_iload_n hX 3 rfl dX0_shareOf_135 ?_
                    refine wl_icmp_ge hX (tgt := 142) dX0_shareOf_136 (by decide) (fun h6 => ?_) (fun h6 => ?_)
                    · rw [if_neg (fun z => z.elim h4 (fun y => absurd ((nI_leI (by omega) (by omega)).mp h6) (by omega))), i_add0] at e2
                      rw [← e2]
                      refine wl_iinc hX (v := nI (i + 1)) (lv' := [(11, .int (nI (i + 1))), (12, .long (remF (pot * (mLowF (gC I) (bC I) P i)) (sJ (mLowF (gC I) (bC I) P) R))), (8, .long ((lackF (mLowF (gC I) (bC I) P) (sJ (mLowF (gC I) (bC I) P) R) pot i) - ((pot * (mLowF (gC I) (bC I) P i)) / (sJ (mLowF (gC I) (bC I) P) R)))), (0, .ref (ad 4)), (1, .int (nI j)), (2, .long pot), (4, .long (sJ (mLowF (gC I) (bC I) P) R)), (6, .long (remF (pot * (mLowF (gC I) (bC I) P j)) (sJ (mLowF (gC I) (bC I) P) R))), (10, .int (servF (mLowF (gC I) (bC I) P) (sJ (mLowF (gC I) (bC I) P) R) pot j (i + 1)))]) 8 rfl (nI_1 _) rfl (by decide) dX0_shareOf_142 ?_
                      refine wl_goto hX (tgt := 77) dX0_shareOf_145 (by decide) ?_
                      refine wl_sub hX [3, 4, 5, 6, 7, 2, 8, 0] rfl ?_
                      exact ihM (i + 1) (by omega) (by omega)
                    · rw [if_pos (Or.inr ⟨h5, Nat.lt_of_not_le (fun z => h6 ((nI_leI (by omega) (by omega)).mpr z))⟩)] at e2
                      refine wl_iinc hX (v := servF (mLowF (gC I) (bC I) P) (sJ (mLowF (gC I) (bC I) P) R) pot j (i + 1)) (lv' := [(10, .int (servF (mLowF (gC I) (bC I) P) (sJ (mLowF (gC I) (bC I) P) R) pot j (i + 1))), (12, .long (remF (pot * (mLowF (gC I) (bC I) P i)) (sJ (mLowF (gC I) (bC I) P) R))), (8, .long ((lackF (mLowF (gC I) (bC I) P) (sJ (mLowF (gC I) (bC I) P) R) pot i) - ((pot * (mLowF (gC I) (bC I) P i)) / (sJ (mLowF (gC I) (bC I) P) R)))), (0, .ref (ad 4)), (1, .int (nI j)), (2, .long pot), (4, .long (sJ (mLowF (gC I) (bC I) P) R)), (6, .long (remF (pot * (mLowF (gC I) (bC I) P j)) (sJ (mLowF (gC I) (bC I) P) R))), (11, .int (nI i))]) 7 rfl (by exact e2.symm) rfl (by decide) dX0_shareOf_139 ?_
                      refine wl_iinc hX (v := nI (i + 1)) (lv' := [(11, .int (nI (i + 1))), (10, .int (servF (mLowF (gC I) (bC I) P) (sJ (mLowF (gC I) (bC I) P) R) pot j (i + 1))), (12, .long (remF (pot * (mLowF (gC I) (bC I) P i)) (sJ (mLowF (gC I) (bC I) P) R))), (8, .long ((lackF (mLowF (gC I) (bC I) P) (sJ (mLowF (gC I) (bC I) P) R) pot i) - ((pot * (mLowF (gC I) (bC I) P i)) / (sJ (mLowF (gC I) (bC I) P) R)))), (0, .ref (ad 4)), (1, .int (nI j)), (2, .long pot), (4, .long (sJ (mLowF (gC I) (bC I) P) R)), (6, .long (remF (pot * (mLowF (gC I) (bC I) P j)) (sJ (mLowF (gC I) (bC I) P) R)))]) 8 rfl (nI_1 _) rfl (by decide) dX0_shareOf_142 ?_
                      refine wl_goto hX (tgt := 77) dX0_shareOf_145 (by decide) ?_
                      refine wl_sub hX [4, 5, 6, 7, 8, 3, 1, 0] rfl ?_
                      exact ihM (i + 1) (by omega) (by omega)
          exact M (R + 1) 0 (by omega) (by omega)
        · refine wl_lconst hX (v := 0) dX0_shareOf_53 (by decide) ?_
          exact wl_lreturn hT dX0_shareOf_54 (hx_rl (by unfold shareF; rw [if_neg h1]))
      · have hi1 : i < R := Nat.lt_of_not_le (fun z => hic ((nI_leI (by omega) (by omega)).mpr z))
        refine wl_aload_n hX 0 rfl dX0_shareOf_15 ?_
        refine gf_X0_4 hX tb_177 dX0_shareOf_16 ?_
        refine wl_iload hX 4 rfl dX0_shareOf_19 ?_
        refine wl_aload_n hX 0 rfl dX0_shareOf_21 ?_
        refine wl_iload hX 4 rfl dX0_shareOf_22 ?_
        refine wl_cVl hX (c_X0_matchedLow hi I (lwJ J 19 (mLowF (gC I) (bC I) P) i) i (by omega) P hP hP12) mv_X0_matchedLow tb_437 (by decide) rfl rfl rfl rfl (by omega) (Nat.le_of_ble_eq_true rfl) dX0_shareOf_24 ?_
        refine wl_last hX i kc_19 rfl (by omega) dX0_shareOf_27 ?_
        refine wl_lload hX 3 rfl dX0_shareOf_28 ?_
        refine wl_aload_n hX 0 rfl dX0_shareOf_30 ?_
        refine gf_X0_4 hX tb_177 dX0_shareOf_31 ?_
        refine wl_iload hX 4 rfl dX0_shareOf_34 ?_
        refine wl_lald hX i kc_19 rfl (by omega) dX0_shareOf_36 ?_
        refine wl_eql (y := mLowF (gC I) (bC I) P i) (lwJ_at J 19 (mLowF (gC I) (bC I) P) (i + 1) i (by omega)) ?_
        refine wl_ladd hX dX0_shareOf_37 ?_
        refine wl_lstore hX (lv' := [(4, .long ((sJ (mLowF (gC I) (bC I) P) i) + (mLowF (gC I) (bC I) P i))), (0, .ref (ad 4)), (1, .int (nI j)), (2, .long pot), (6, .int (nI i))]) rfl (by decide) dX0_shareOf_38 ?_
        refine wl_iinc hX (v := nI (i + 1)) (lv' := [(6, .int (nI (i + 1))), (4, .long ((sJ (mLowF (gC I) (bC I) P) i) + (mLowF (gC I) (bC I) P i))), (0, .ref (ad 4)), (1, .int (nI j)), (2, .long pot)]) 4 rfl (nI_1 _) rfl (by decide) dX0_shareOf_40 ?_
        refine wl_goto hX (tgt := 6) dX0_shareOf_43 (by decide) ?_
        refine wl_sub hX [2, 3, 4, 1, 0] rfl ?_
        exact ihL (i + 1) (by omega) (by omega)
  exact L (R + 1) 0 (by omega) (by omega)

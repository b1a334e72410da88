/-! the reference: its root, its rows -/
theorem asF_01 (I : MI) (r : Nat) : ∀ i, asF I r i = 0 ∨ asF I r i = 1
  | 0 => Or.inr rfl
  | i + 1 => by
    show (if asF I r i = 0 ∨ ¬ I 30 (72 * r + i) = I 22 i then (0 : Int32) else 1) = 0 ∨ (if asF I r i = 0 ∨ ¬ I 30 (72 * r + i) = I 22 i then (0 : Int32) else 1) = 1
    split
    · exact Or.inl rfl
    · exact Or.inr rfl
theorem lxF_01 (t f : Nat → Int32) : ∀ n q, lxF t f n q = 0 ∨ lxF t f n q = 1
  | 0, _ => Or.inl rfl
  | n + 1, q => by
    show (if t q = f q then lxF t f n (q + 1) else if t q < f q then 1 else 0) = 0 ∨ (if t q = f q then lxF t f n (q + 1) else if t q < f q then 1 else 0) = 1
    split
    · exact lxF_01 t f n (q + 1)
    · split
      · exact Or.inr rfl
      · exact Or.inl rfl
set_option maxHeartbeats 400000 in
theorem c_X5_root {l : Launch} {D : va_G} {ad : Nat → Nat} {cy : Nat → ClassId} (hi : hx_inj ad) (I : MI) (J : MJ) (x : Int64) : Ct l D ad cy yX5_root cX5_root 7 (some .long) 0 [.long x] I J (hx_is (some (.long (rootF x))) I J) := by
  refine ct_start hi (by decide +kernel) (Nat.le_of_ble_eq_true rfl) (fun X hX hT => ?_)
  show X 0 [(0, .long x)] [] I J
  obtain ⟨res, hres⟩ : ∃ z : Int64, z = rootF x := ⟨_, rfl⟩
  rw [← hres] at hT
  have L : ∀ (k a : Nat), k ≤ 29 → a % 2 ^ k = 0 → rtF x k (lN a) = res → X 6 [(0, .long x), (2, .long (lN a)), (4, .int (nI k - 1))] [] I J := by
    intro k
    induction k with
    | zero =>
      intro a hk ha hg
      refine wl_iload hX 2 rfl dX5_root_6 ?_
      refine wl_if_lt hX (tgt := 42) dX5_root_8 (by decide) (fun h9 => ?_) (fun h9 => absurd (by decide) h9)
      refine wl_lload_n hX 1 rfl dX5_root_42 ?_
      exact wl_lreturn hT dX5_root_43 (hx_rl hg)
    | succ k ih =>
      intro a hk ha hg
      have hg2 : rtF x k (if x < (lN a + bitL (k + 1)) * (lN a + bitL (k + 1)) then lN a else lN a + bitL (k + 1)) = res := hg
      have hb := bitL_half ha
      rw [nI_pred]
      refine wl_iload hX 2 rfl dX5_root_6 ?_
      refine wl_if_lt hX (tgt := 42) dX5_root_8 (by decide) (fun h9 => absurd h9 (nI_pos (by omega))) (fun h9 => ?_)
      refine wl_lload_n hX 1 rfl dX5_root_11 ?_
      refine wl_lconst hX (v := 1) dX5_root_12 (by decide) ?_
      refine wl_iload hX 2 rfl dX5_root_13 ?_
      refine wl_lshl hX (v := bitL (k + 1)) dX5_root_15 (bitL_shl k (by omega)) ?_
      refine wl_lor hX dX5_root_16 ?_
      refine wl_eql (y := lN a + bitL (k + 1)) (bitL_or ha) ?_
      refine wl_lstore hX (lv' := [(5, .long (lN a + bitL (k + 1))), (0, .long x), (2, .long (lN a)), (4, .int (nI k))]) rfl (by decide) dX5_root_17 ?_
      refine wl_lload hX 0 rfl dX5_root_19 ?_
      refine wl_lload hX 0 rfl dX5_root_21 ?_
      refine wl_lmul hX dX5_root_23 ?_
      refine wl_lload_n hX 1 rfl dX5_root_24 ?_
      refine wl_lif_gt hX (tgt := 34) dX5_root_25 dX5_root_26 (by decide) (fun h2 => ?_) (fun h2 => ?_)
      · rw [if_pos h2] at hg2
        refine wl_lload_n hX 2 rfl dX5_root_34 ?_
        refine wl_lstore_n hX (lv' := [(2, .long (lN a)), (5, .long (lN a + bitL (k + 1))), (0, .long x), (4, .int (nI k))]) rfl (by decide) dX5_root_35 ?_
        refine wl_iinc hX (v := nI k - 1) (lv' := [(4, .int (nI k - 1)), (2, .long (lN a)), (5, .long (lN a + bitL (k + 1))), (0, .long x)]) 3 rfl (by exact (hx_m1 (nI k))) rfl (by decide) dX5_root_36 ?_
        refine wl_goto hX (tgt := 6) dX5_root_39 (by decide) ?_
        refine wl_sub hX [3, 1, 0] rfl ?_
        exact ih a (by omega) hb.1 hg2
      · rw [if_neg h2] at hg2
        have e3 : lN a + bitL (k + 1) = lN (a + 2 ^ k) := by rw [bitL_s, lN_add]
        rw [e3] at hg2
        refine wl_lload hX 0 rfl dX5_root_29 ?_
        refine wl_goto hX (tgt := 35) dX5_root_31 (by decide) ?_
        refine wl_eql (y := lN (a + 2 ^ k)) e3 ?_
        refine wl_lstore_n hX (lv' := [(2, .long (lN (a + 2 ^ k))), (5, .long (lN a + bitL (k + 1))), (0, .long x), (4, .int (nI k))]) rfl (by decide) dX5_root_35 ?_
        refine wl_iinc hX (v := nI k - 1) (lv' := [(4, .int (nI k - 1)), (2, .long (lN (a + 2 ^ k))), (5, .long (lN a + bitL (k + 1))), (0, .long x)]) 3 rfl (by exact (hx_m1 (nI k))) rfl (by decide) dX5_root_36 ?_
        refine wl_goto hX (tgt := 6) dX5_root_39 (by decide) ?_
        refine wl_sub hX [3, 1, 0] rfl ?_
        exact ih (a + 2 ^ k) (by omega) hb.2 hg2
  refine wl_lconst hX (v := 0) dX5_root_0 (by decide) ?_
  refine wl_lstore_n hX (lv' := [(2, .long 0), (0, .long x)]) rfl (by decide) dX5_root_1 ?_
  refine wl_bipush hX (v := 28) dX5_root_2 (by decide) ?_
  refine wl_istore hX (lv' := [(4, .int 28), (2, .long 0), (0, .long x)]) rfl (by decide) dX5_root_4 ?_
  refine wl_sub hX [2, 1, 0] rfl ?_
  exact L 29 0 (by omega) (by decide) hres.symm

set_option maxHeartbeats 400000 in
theorem c_X5_matchedOf {l : Launch} {D : va_G} {ad : Nat → Nat} {cy : Nat → ClassId} (hi : hx_inj ad) (I : MI) (J : MJ) (j : Nat) (z w : Int32) (hj : j < 6) (P : Nat) (hP : I 5 0 = nI P) (hP12 : P ≤ 12) : Ct l D ad cy yX5_matchedOf cX5_matchedOf 14 (some .long) 1 [.ref (ad 5), .int (nI j), .int z, .int w] I J (hx_is (some (.long (mOfF (gM I) (bM I) j z w P))) I J) := by
  refine ct_start hi (by decide +kernel) (Nat.le_of_ble_eq_true rfl) (fun X hX hT => ?_)
  show X 0 [(0, .ref (ad 5)), (1, .int (nI j)), (2, .int z), (3, .int w)] [] I J
  refine wl_lconst hX (v := 0) dX5_matchedOf_0 (by decide) ?_
  refine wl_lstore hX (lv' := [(4, .long 0), (0, .ref (ad 5)), (1, .int (nI j)), (2, .int z), (3, .int w)]) rfl (by decide) dX5_matchedOf_1 ?_
  refine wl_iconst hX (v := 0) dX5_matchedOf_3 (by decide) ?_
  refine wl_istore hX (lv' := [(6, .int 0), (4, .long 0), (0, .ref (ad 5)), (1, .int (nI j)), (2, .int z), (3, .int w)]) rfl (by decide) dX5_matchedOf_4 ?_
  refine wl_sub hX [2, 3, 4, 5, 1, 0] rfl ?_
  have L : ∀ (k p : Nat), p ≤ P → P - p < k → X 6 [(0, .ref (ad 5)), (1, .int (nI j)), (2, .int z), (3, .int w), (4, .long (triF (mmF (gM I) (bM I) j z w) p)), (6, .int (nI p))] [] I J := by
    intro k
    induction k with
    | zero => exact fun _  _ h => absurd h (Nat.not_lt_zero _)
    | succ k ihL =>
      intro p  hpn hpk
      refine wl_iload hX 5 rfl dX5_matchedOf_6 ?_
      refine wl_aload_n hX 0 rfl dX5_matchedOf_8 ?_
      refine gf_X5_0 hX tb_500 dX5_matchedOf_9 ?_
      refine wl_eqi (y := nI P) hP ?_
      refine wl_icmp_ge hX (tgt := 136) dX5_matchedOf_12 (by decide) (fun hpc => ?_) (fun hpc => ?_)
      · have hpe : p = P := by
          have h9 := (nI_leI (by omega) (by omega)).mp hpc
          omega
        rw [hpe]
        refine wl_ldc2 hX tb_736 dX5_matchedOf_136 ?_
        refine wl_lload hX 4 rfl dX5_matchedOf_139 ?_
        refine wl_lmul hX dX5_matchedOf_141 ?_
        refine wl_iload_n hX 2 rfl dX5_matchedOf_142 ?_
        refine wl_iconst hX (v := 1) dX5_matchedOf_143 (by decide) ?_
        refine wl_icmp_ne hX (tgt := 153) dX5_matchedOf_144 (by decide) (fun h1 => ?_) (fun h1 => ?_)
        · refine wl_lconst hX (v := 0) dX5_matchedOf_153 (by decide) ?_
          refine wl_eql (y := (if z = 1 then (255999 : Int64) else 0)) (if_neg h1).symm ?_
          refine wl_ladd hX dX5_matchedOf_154 ?_
          refine wl_ldc2 hX tb_738 dX5_matchedOf_155 ?_
          refine wl_ldiv hX dX5_matchedOf_158 (by decide) ?_
          exact wl_lreturn hT dX5_matchedOf_159 (hx_rl rfl)
        · refine wl_ldc2 hX tb_737 dX5_matchedOf_147 ?_
          refine wl_goto hX (tgt := 154) dX5_matchedOf_150 (by decide) ?_
          refine wl_eql (y := (if z = 1 then (255999 : Int64) else 0)) (if_pos h1).symm ?_
          refine wl_ladd hX dX5_matchedOf_154 ?_
          refine wl_ldc2 hX tb_738 dX5_matchedOf_155 ?_
          refine wl_ldiv hX dX5_matchedOf_158 (by decide) ?_
          exact wl_lreturn hT dX5_matchedOf_159 (hx_rl rfl)
      · have hp1 : p < P := Nat.lt_of_not_le (fun z => hpc ((nI_leI (by omega) (by omega)).mpr z))
        refine wl_iconst hX (v := 0) dX5_matchedOf_15 (by decide) ?_
        refine wl_istore hX (lv' := [(7, .int 0), (0, .ref (ad 5)), (1, .int (nI j)), (2, .int z), (3, .int w), (4, .long (triF (mmF (gM I) (bM I) j z w) p)), (6, .int (nI p))]) rfl (by decide) dX5_matchedOf_16 ?_
        refine wl_sub hX [1, 2, 3, 4, 5, 6, 0] rfl ?_
        have M : ∀ (k r : Nat), r ≤ p → p - r < k → X 18 [(0, .ref (ad 5)), (1, .int (nI j)), (2, .int z), (3, .int w), (4, .long (accF ((mmF (gM I) (bM I) j z w) p) r (triF (mmF (gM I) (bM I) j z w) p))), (6, .int (nI p)), (7, .int (nI r))] [] I J := by
          intro k
          induction k with
          | zero => exact fun _  _ h => absurd h (Nat.not_lt_zero _)
          | succ k ihM =>
            intro r  hrn hrk
            refine wl_iload hX 6 rfl dX5_matchedOf_18 ?_
            refine wl_iload hX 5 rfl dX5_matchedOf_20 ?_
            refine wl_icmp_ge hX (tgt := 130) dX5_matchedOf_22 (by decide) (fun hrc => ?_) (fun hrc => ?_)
            · have hre : r = p := by
                have h9 := (nI_leI (by omega) (by omega)).mp hrc
                omega
              rw [hre]
              refine wl_iinc hX (v := nI (p + 1)) (lv' := [(6, .int (nI (p + 1))), (0, .ref (ad 5)), (1, .int (nI j)), (2, .int z), (3, .int w), (4, .long (accF ((mmF (gM I) (bM I) j z w) p) p (triF (mmF (gM I) (bM I) j z w) p))), (7, .int (nI p))]) 5 rfl (nI_1 _) rfl (by decide) dX5_matchedOf_130 ?_
              refine wl_goto hX (tgt := 6) dX5_matchedOf_133 (by decide) ?_
              refine wl_sub hX [1, 2, 3, 4, 5, 0] rfl ?_
              exact ihL (p + 1) (by omega) (by omega)
            · have hr1 : r < p := Nat.lt_of_not_le (fun z => hrc ((nI_leI (by omega) (by omega)).mpr z))
              refine wl_ldc2 hX tb_731 dX5_matchedOf_25 ?_
              refine wl_aload_n hX 0 rfl dX5_matchedOf_28 ?_
              refine gf_X5_8 hX tb_508 dX5_matchedOf_29 ?_
              refine wl_bipush hX (v := 6) dX5_matchedOf_32 (by decide) ?_
              refine wl_iload hX 5 rfl dX5_matchedOf_34 ?_
              refine wl_imul hX dX5_matchedOf_36 ?_
              refine wl_iload_n hX 1 rfl dX5_matchedOf_37 ?_
              refine wl_iadd hX dX5_matchedOf_38 ?_
              refine wl_iald hX (6 * p + j) kc_24 (hx_ix6 p j) (by omega) dX5_matchedOf_39 ?_
              refine wl_i2l hX (v := (I 24 (6 * p + j)).toInt64) dX5_matchedOf_40 rfl ?_
              refine wl_lmul hX dX5_matchedOf_41 ?_
              refine wl_aload_n hX 0 rfl dX5_matchedOf_42 ?_
              refine gf_X5_8 hX tb_508 dX5_matchedOf_43 ?_
              refine wl_bipush hX (v := 6) dX5_matchedOf_46 (by decide) ?_
              refine wl_iload hX 6 rfl dX5_matchedOf_48 ?_
              refine wl_imul hX dX5_matchedOf_50 ?_
              refine wl_iload_n hX 1 rfl dX5_matchedOf_51 ?_
              refine wl_iadd hX dX5_matchedOf_52 ?_
              refine wl_iald hX (6 * r + j) kc_24 (hx_ix6 r j) (by omega) dX5_matchedOf_53 ?_
              refine wl_i2l hX (v := (I 24 (6 * r + j)).toInt64) dX5_matchedOf_54 rfl ?_
              refine wl_lmul hX dX5_matchedOf_55 ?_
              refine wl_lstore hX (lv' := [(8, .long ((65536 * ((I 24 (6 * p + j)).toInt64)) * ((I 24 (6 * r + j)).toInt64))), (0, .ref (ad 5)), (1, .int (nI j)), (2, .int z), (3, .int w), (4, .long (accF ((mmF (gM I) (bM I) j z w) p) r (triF (mmF (gM I) (bM I) j z w) p))), (6, .int (nI p)), (7, .int (nI r))]) rfl (by decide) dX5_matchedOf_56 ?_
              refine wl_iload_n hX 4 rfl dX5_matchedOf_58 ?_
              refine wl_if_eq hX (tgt := 68) dX5_matchedOf_59 (by decide) (fun h2 => ?_) (fun h2 => ?_)
              · refine wl_aload_n hX 1 rfl dX5_matchedOf_68 ?_
                refine gf_X5_9 hX tb_509 dX5_matchedOf_69 ?_
                refine wl_bipush hX (v := 12) dX5_matchedOf_72 (by decide) ?_
                refine wl_iload hX 6 rfl dX5_matchedOf_74 ?_
                refine wl_imul hX dX5_matchedOf_76 ?_
                refine wl_iload hX 7 rfl dX5_matchedOf_77 ?_
                refine wl_iadd hX dX5_matchedOf_79 ?_
                refine wl_iald hX (12 * p + r) kc_25 (hx_ix12 p r) (by omega) dX5_matchedOf_80 ?_
                refine wl_i2l hX (v := (I 25 (12 * p + r)).toInt64) dX5_matchedOf_81 rfl ?_
                refine wl_eql (y := (if w = 0 then (bM I p r).toInt64 else 1000)) (by rw [if_pos h2]; rfl) ?_
                refine wl_lstore hX (lv' := [(10, .long (if w = 0 then (bM I p r).toInt64 else 1000)), (8, .long ((65536 * ((I 24 (6 * p + j)).toInt64)) * ((I 24 (6 * r + j)).toInt64))), (0, .ref (ad 5)), (1, .int (nI j)), (2, .int z), (3, .int w), (4, .long (accF ((mmF (gM I) (bM I) j z w) p) r (triF (mmF (gM I) (bM I) j z w) p))), (6, .int (nI p)), (7, .int (nI r))]) rfl (by decide) dX5_matchedOf_82 ?_
                refine wl_lload hX 1 rfl dX5_matchedOf_84 ?_
                refine wl_cSl hX (c_X5_root hi I J (fineF (gM I) p r j)) mv_X5_root tb_733 rfl rfl (by omega) (Nat.le_of_ble_eq_true rfl) dX5_matchedOf_86 ?_
                refine wl_lstore hX (lv' := [(12, .long (rootF (fineF (gM I) p r j))), (10, .long (if w = 0 then (bM I p r).toInt64 else 1000)), (8, .long ((65536 * ((I 24 (6 * p + j)).toInt64)) * ((I 24 (6 * r + j)).toInt64))), (0, .ref (ad 5)), (1, .int (nI j)), (2, .int z), (3, .int w), (4, .long (accF ((mmF (gM I) (bM I) j z w) p) r (triF (mmF (gM I) (bM I) j z w) p))), (6, .int (nI p)), (7, .int (nI r))]) rfl (by decide) dX5_matchedOf_89 ?_
                refine wl_lload hX 7 rfl dX5_matchedOf_91 ?_
                refine wl_lload hX 1 rfl dX5_matchedOf_93 ?_
                refine wl_lload hX 0 rfl dX5_matchedOf_95 ?_
                refine wl_lmul hX dX5_matchedOf_97 ?_
                refine wl_iload_n hX 5 rfl dX5_matchedOf_98 ?_
                refine wl_iconst hX (v := 1) dX5_matchedOf_99 (by decide) ?_
                refine wl_icmp_ne hX (tgt := 119) dX5_matchedOf_100 (by decide) (fun h3 => ?_) (fun h3 => ?_)
                · refine wl_lconst hX (v := 0) dX5_matchedOf_119 (by decide) ?_
                  refine wl_eql (y := (if z = 1 ∧ ¬ rootF (fineF (gM I) p r j) * rootF (fineF (gM I) p r j) = fineF (gM I) p r j then (if w = 0 then (bM I p r).toInt64 else 1000) else (0 : Int64))) (if_neg (fun y => h3 y.1)).symm ?_
                  refine wl_ladd hX dX5_matchedOf_120 ?_
                  refine wl_ladd hX dX5_matchedOf_121 ?_
                  refine wl_eql (y := accF ((mmF (gM I) (bM I) j z w) p) (r + 1) (triF (mmF (gM I) (bM I) j z w) p)) rfl ?_
                  refine wl_lstore hX (lv' := [(4, .long (accF ((mmF (gM I) (bM I) j z w) p) (r + 1) (triF (mmF (gM I) (bM I) j z w) p))), (12, .long (rootF (fineF (gM I) p r j))), (10, .long (if w = 0 then (bM I p r).toInt64 else 1000)), (8, .long ((65536 * ((I 24 (6 * p + j)).toInt64)) * ((I 24 (6 * r + j)).toInt64))), (0, .ref (ad 5)), (1, .int (nI j)), (2, .int z), (3, .int w), (6, .int (nI p)), (7, .int (nI r))]) rfl (by decide) dX5_matchedOf_122 ?_
                  refine wl_iinc hX (v := nI (r + 1)) (lv' := [(7, .int (nI (r + 1))), (4, .long (accF ((mmF (gM I) (bM I) j z w) p) (r + 1) (triF (mmF (gM I) (bM I) j z w) p))), (12, .long (rootF (fineF (gM I) p r j))), (10, .long (if w = 0 then (bM I p r).toInt64 else 1000)), (8, .long ((65536 * ((I 24 (6 * p + j)).toInt64)) * ((I 24 (6 * r + j)).toInt64))), (0, .ref (ad 5)), (1, .int (nI j)), (2, .int z), (3, .int w), (6, .int (nI p))]) 9 rfl (nI_1 _) rfl (by decide) dX5_matchedOf_124 ?_
                  refine wl_goto hX (tgt := 18) dX5_matchedOf_127 (by decide) ?_
                  refine wl_sub hX [5, 6, 7, 8, 1, 9, 0] rfl ?_
                  exact ihM (r + 1) (by omega) (by omega)
                · refine wl_lload hX 0 rfl dX5_matchedOf_103 ?_
                  refine wl_lload hX 0 rfl dX5_matchedOf_105 ?_
                  refine wl_lmul hX dX5_matchedOf_107 ?_
                  refine wl_lload hX 2 rfl dX5_matchedOf_108 ?_
                  refine wl_lif_eq hX (tgt := 119) dX5_matchedOf_110 dX5_matchedOf_111 (by decide) (fun h4 => ?_) (fun h4 => ?_)
                  · refine wl_lconst hX (v := 0) dX5_matchedOf_119 (by decide) ?_
                    refine wl_eql (y := (if z = 1 ∧ ¬ rootF (fineF (gM I) p r j) * rootF (fineF (gM I) p r j) = fineF (gM I) p r j then (if w = 0 then (bM I p r).toInt64 else 1000) else (0 : Int64))) (if_neg (fun y => y.2 h4)).symm ?_
                    refine wl_ladd hX dX5_matchedOf_120 ?_
                    refine wl_ladd hX dX5_matchedOf_121 ?_
                    refine wl_eql (y := accF ((mmF (gM I) (bM I) j z w) p) (r + 1) (triF (mmF (gM I) (bM I) j z w) p)) rfl ?_
                    refine wl_lstore hX (lv' := [(4, .long (accF ((mmF (gM I) (bM I) j z w) p) (r + 1) (triF (mmF (gM I) (bM I) j z w) p))), (12, .long (rootF (fineF (gM I) p r j))), (10, .long (if w = 0 then (bM I p r).toInt64 else 1000)), (8, .long ((65536 * ((I 24 (6 * p + j)).toInt64)) * ((I 24 (6 * r + j)).toInt64))), (0, .ref (ad 5)), (1, .int (nI j)), (2, .int z), (3, .int w), (6, .int (nI p)), (7, .int (nI r))]) rfl (by decide) dX5_matchedOf_122 ?_
                    refine wl_iinc hX (v := nI (r + 1)) (lv' := [(7, .int (nI (r + 1))), (4, .long (accF ((mmF (gM I) (bM I) j z w) p) (r + 1) (triF (mmF (gM I) (bM I) j z w) p))), (12, .long (rootF (fineF (gM I) p r j))), (10, .long (if w = 0 then (bM I p r).toInt64 else 1000)), (8, .long ((65536 * ((I 24 (6 * p + j)).toInt64)) * ((I 24 (6 * r + j)).toInt64))), (0, .ref (ad 5)), (1, .int (nI j)), (2, .int z), (3, .int w), (6, .int (nI p))]) 9 rfl (nI_1 _) rfl (by decide) dX5_matchedOf_124 ?_
                    refine wl_goto hX (tgt := 18) dX5_matchedOf_127 (by decide) ?_
                    refine wl_sub hX [5, 6, 7, 8, 1, 9, 0] rfl ?_
                    exact ihM (r + 1) (by omega) (by omega)
                  · refine wl_lload hX 1 rfl dX5_matchedOf_114 ?_
                    refine wl_goto hX (tgt := 120) dX5_matchedOf_116 (by decide) ?_
                    refine wl_eql (y := (if z = 1 ∧ ¬ rootF (fineF (gM I) p r j) * rootF (fineF (gM I) p r j) = fineF (gM I) p r j then (if w = 0 then (bM I p r).toInt64 else 1000) else (0 : Int64))) (if_pos ⟨h3, h4⟩).symm ?_
                    refine wl_ladd hX dX5_matchedOf_120 ?_
                    refine wl_ladd hX dX5_matchedOf_121 ?_
                    refine wl_eql (y := accF ((mmF (gM I) (bM I) j z w) p) (r + 1) (triF (mmF (gM I) (bM I) j z w) p)) rfl ?_
                    refine wl_lstore hX (lv' := [(4, .long (accF ((mmF (gM I) (bM I) j z w) p) (r + 1) (triF (mmF (gM I) (bM I) j z w) p))), (12, .long (rootF (fineF (gM I) p r j))), (10, .long (if w = 0 then (bM I p r).toInt64 else 1000)), (8, .long ((65536 * ((I 24 (6 * p + j)).toInt64)) * ((I 24 (6 * r + j)).toInt64))), (0, .ref (ad 5)), (1, .int (nI j)), (2, .int z), (3, .int w), (6, .int (nI p)), (7, .int (nI r))]) rfl (by decide) dX5_matchedOf_122 ?_
                    refine wl_iinc hX (v := nI (r + 1)) (lv' := [(7, .int (nI (r + 1))), (4, .long (accF ((mmF (gM I) (bM I) j z w) p) (r + 1) (triF (mmF (gM I) (bM I) j z w) p))), (12, .long (rootF (fineF (gM I) p r j))), (10, .long (if w = 0 then (bM I p r).toInt64 else 1000)), (8, .long ((65536 * ((I 24 (6 * p + j)).toInt64)) * ((I 24 (6 * r + j)).toInt64))), (0, .ref (ad 5)), (1, .int (nI j)), (2, .int z), (3, .int w), (6, .int (nI p))]) 9 rfl (nI_1 _) rfl (by decide) dX5_matchedOf_124 ?_
                    refine wl_goto hX (tgt := 18) dX5_matchedOf_127 (by decide) ?_
                    refine wl_sub hX [5, 6, 7, 8, 1, 9, 0] rfl ?_
                    exact ihM (r + 1) (by omega) (by omega)
              · refine wl_ldc2 hX tb_732 dX5_matchedOf_62 ?_
                refine wl_goto hX (tgt := 82) dX5_matchedOf_65 (by decide) ?_
                refine wl_eql (y := (if w = 0 then (bM I p r).toInt64 else 1000)) (by rw [if_neg h2]) ?_
                refine wl_lstore hX (lv' := [(10, .long (if w = 0 then (bM I p r).toInt64 else 1000)), (8, .long ((65536 * ((I 24 (6 * p + j)).toInt64)) * ((I 24 (6 * r + j)).toInt64))), (0, .ref (ad 5)), (1, .int (nI j)), (2, .int z), (3, .int w), (4, .long (accF ((mmF (gM I) (bM I) j z w) p) r (triF (mmF (gM I) (bM I) j z w) p))), (6, .int (nI p)), (7, .int (nI r))]) rfl (by decide) dX5_matchedOf_82 ?_
                refine wl_lload hX 1 rfl dX5_matchedOf_84 ?_
                refine wl_cSl hX (c_X5_root hi I J (fineF (gM I) p r j)) mv_X5_root tb_733 rfl rfl (by omega) (Nat.le_of_ble_eq_true rfl) dX5_matchedOf_86 ?_
                refine wl_lstore hX (lv' := [(12, .long (rootF (fineF (gM I) p r j))), (10, .long (if w = 0 then (bM I p r).toInt64 else 1000)), (8, .long ((65536 * ((I 24 (6 * p + j)).toInt64)) * ((I 24 (6 * r + j)).toInt64))), (0, .ref (ad 5)), (1, .int (nI j)), (2, .int z), (3, .int w), (4, .long (accF ((mmF (gM I) (bM I) j z w) p) r (triF (mmF (gM I) (bM I) j z w) p))), (6, .int (nI p)), (7, .int (nI r))]) rfl (by decide) dX5_matchedOf_89 ?_
                refine wl_lload hX 7 rfl dX5_matchedOf_91 ?_
                refine wl_lload hX 1 rfl dX5_matchedOf_93 ?_
                refine wl_lload hX 0 rfl dX5_matchedOf_95 ?_
                refine wl_lmul hX dX5_matchedOf_97 ?_
                refine wl_iload_n hX 5 rfl dX5_matchedOf_98 ?_
                refine wl_iconst hX (v := 1) dX5_matchedOf_99 (by decide) ?_
                refine wl_icmp_ne hX (tgt := 119) dX5_matchedOf_100 (by decide) (fun h3 => ?_) (fun h3 => ?_)
                · refine wl_lconst hX (v := 0) dX5_matchedOf_119 (by decide) ?_
                  refine wl_eql (y := (if z = 1 ∧ ¬ rootF (fineF (gM I) p r j) * rootF (fineF (gM I) p r j) = fineF (gM I) p r j then (if w = 0 then (bM I p r).toInt64 else 1000) else (0 : Int64))) (if_neg (fun y => h3 y.1)).symm ?_
                  refine wl_ladd hX dX5_matchedOf_120 ?_
                  refine wl_ladd hX dX5_matchedOf_121 ?_
                  refine wl_eql (y := accF ((mmF (gM I) (bM I) j z w) p) (r + 1) (triF (mmF (gM I) (bM I) j z w) p)) rfl ?_
                  refine wl_lstore hX (lv' := [(4, .long (accF ((mmF (gM I) (bM I) j z w) p) (r + 1) (triF (mmF (gM I) (bM I) j z w) p))), (12, .long (rootF (fineF (gM I) p r j))), (10, .long (if w = 0 then (bM I p r).toInt64 else 1000)), (8, .long ((65536 * ((I 24 (6 * p + j)).toInt64)) * ((I 24 (6 * r + j)).toInt64))), (0, .ref (ad 5)), (1, .int (nI j)), (2, .int z), (3, .int w), (6, .int (nI p)), (7, .int (nI r))]) rfl (by decide) dX5_matchedOf_122 ?_
                  refine wl_iinc hX (v := nI (r + 1)) (lv' := [(7, .int (nI (r + 1))), (4, .long (accF ((mmF (gM I) (bM I) j z w) p) (r + 1) (triF (mmF (gM I) (bM I) j z w) p))), (12, .long (rootF (fineF (gM I) p r j))), (10, .long (if w = 0 then (bM I p r).toInt64 else 1000)), (8, .long ((65536 * ((I 24 (6 * p + j)).toInt64)) * ((I 24 (6 * r + j)).toInt64))), (0, .ref (ad 5)), (1, .int (nI j)), (2, .int z), (3, .int w), (6, .int (nI p))]) 9 rfl (nI_1 _) rfl (by decide) dX5_matchedOf_124 ?_
                  refine wl_goto hX (tgt := 18) dX5_matchedOf_127 (by decide) ?_
                  refine wl_sub hX [5, 6, 7, 8, 1, 9, 0] rfl ?_
                  exact ihM (r + 1) (by omega) (by omega)
                · refine wl_lload hX 0 rfl dX5_matchedOf_103 ?_
                  refine wl_lload hX 0 rfl dX5_matchedOf_105 ?_
                  refine wl_lmul hX dX5_matchedOf_107 ?_
                  refine wl_lload hX 2 rfl dX5_matchedOf_108 ?_
                  refine wl_lif_eq hX (tgt := 119) dX5_matchedOf_110 dX5_matchedOf_111 (by decide) (fun h4 => ?_) (fun h4 => ?_)
                  · refine wl_lconst hX (v := 0) dX5_matchedOf_119 (by decide) ?_
                    refine wl_eql (y := (if z = 1 ∧ ¬ rootF (fineF (gM I) p r j) * rootF (fineF (gM I) p r j) = fineF (gM I) p r j then (if w = 0 then (bM I p r).toInt64 else 1000) else (0 : Int64))) (if_neg (fun y => y.2 h4)).symm ?_
                    refine wl_ladd hX dX5_matchedOf_120 ?_
                    refine wl_ladd hX dX5_matchedOf_121 ?_
                    refine wl_eql (y := accF ((mmF (gM I) (bM I) j z w) p) (r + 1) (triF (mmF (gM I) (bM I) j z w) p)) rfl ?_
                    refine wl_lstore hX (lv' := [(4, .long (accF ((mmF (gM I) (bM I) j z w) p) (r + 1) (triF (mmF (gM I) (bM I) j z w) p))), (12, .long (rootF (fineF (gM I) p r j))), (10, .long (if w = 0 then (bM I p r).toInt64 else 1000)), (8, .long ((65536 * ((I 24 (6 * p + j)).toInt64)) * ((I 24 (6 * r + j)).toInt64))), (0, .ref (ad 5)), (1, .int (nI j)), (2, .int z), (3, .int w), (6, .int (nI p)), (7, .int (nI r))]) rfl (by decide) dX5_matchedOf_122 ?_
                    refine wl_iinc hX (v := nI (r + 1)) (lv' := [(7, .int (nI (r + 1))), (4, .long (accF ((mmF (gM I) (bM I) j z w) p) (r + 1) (triF (mmF (gM I) (bM I) j z w) p))), (12, .long (rootF (fineF (gM I) p r j))), (10, .long (if w = 0 then (bM I p r).toInt64 else 1000)), (8, .long ((65536 * ((I 24 (6 * p + j)).toInt64)) * ((I 24 (6 * r + j)).toInt64))), (0, .ref (ad 5)), (1, .int (nI j)), (2, .int z), (3, .int w), (6, .int (nI p))]) 9 rfl (nI_1 _) rfl (by decide) dX5_matchedOf_124 ?_
                    refine wl_goto hX (tgt := 18) dX5_matchedOf_127 (by decide) ?_
                    refine wl_sub hX [5, 6, 7, 8, 1, 9, 0] rfl ?_
                    exact ihM (r + 1) (by omega) (by omega)
                  · refine wl_lload hX 1 rfl dX5_matchedOf_114 ?_
                    refine wl_goto hX (tgt := 120) dX5_matchedOf_116 (by decide) ?_
                    refine wl_eql (y := (if z = 1 ∧ ¬ rootF (fineF (gM I) p r j) * rootF (fineF (gM I) p r j) = fineF (gM I) p r j then (if w = 0 then (bM I p r).toInt64 else 1000) else (0 : Int64))) (if_pos ⟨h3, h4⟩).symm ?_
                    refine wl_ladd hX dX5_matchedOf_120 ?_
                    refine wl_ladd hX dX5_matchedOf_121 ?_
                    refine wl_eql (y := accF ((mmF (gM I) (bM I) j z w) p) (r + 1) (triF (mmF (gM I) (bM I) j z w) p)) rfl ?_
                    refine wl_lstore hX (lv' := [(4, .long (accF ((mmF (gM I) (bM I) j z w) p) (r + 1) (triF (mmF (gM I) (bM I) j z w) p))), (12, .long (rootF (fineF (gM I) p r j))), (10, .long (if w = 0 then (bM I p r).toInt64 else 1000)), (8, .long ((65536 * ((I 24 (6 * p + j)).toInt64)) * ((I 24 (6 * r + j)).toInt64))), (0, .ref (ad 5)), (1, .int (nI j)), (2, .int z), (3, .int w), (6, .int (nI p)), (7, .int (nI r))]) rfl (by decide) dX5_matchedOf_122 ?_
                    refine wl_iinc hX (v := nI (r + 1)) (lv' := [(7, .int (nI (r + 1))), (4, .long (accF ((mmF (gM I) (bM I) j z w) p) (r + 1) (triF (mmF (gM I) (bM I) j z w) p))), (12, .long (rootF (fineF (gM I) p r j))), (10, .long (if w = 0 then (bM I p r).toInt64 else 1000)), (8, .long ((65536 * ((I 24 (6 * p + j)).toInt64)) * ((I 24 (6 * r + j)).toInt64))), (0, .ref (ad 5)), (1, .int (nI j)), (2, .int z), (3, .int w), (6, .int (nI p))]) 9 rfl (nI_1 _) rfl (by decide) dX5_matchedOf_124 ?_
                    refine wl_goto hX (tgt := 18) dX5_matchedOf_127 (by decide) ?_
                    refine wl_sub hX [5, 6, 7, 8, 1, 9, 0] rfl ?_
                    exact ihM (r + 1) (by omega) (by omega)
        exact M (p + 1) 0 (by omega) (by omega)
  exact L (P + 1) 0 (by omega) (by omega)

set_option maxHeartbeats 400000 in
theorem c_X5_end {l : Launch} {D : va_G} {ad : Nat → Nat} {cy : Nat → ClassId} (hi : hx_inj ad) (I : MI) (J : MJ) (k : Nat) (v : Int32) (hk : k < 18) : Ct l D ad cy yX5_end cX5_end 3 none 1 [.ref (ad 5), .int (nI k), .int v] I J (hx_is none (enM I k v) J) := by
  refine ct_start hi (by decide +kernel) (Nat.le_of_ble_eq_true rfl) (fun X hX hT => ?_)
  show X 0 [(0, .ref (ad 5)), (1, .int (nI k)), (2, .int v)] [] I J
  refine wl_aload_n hX 0 rfl dX5_end_0 ?_
  refine gf_X5_14 hX tb_514 dX5_end_1 ?_
  refine wl_iload_n hX 1 rfl dX5_end_4 ?_
  refine wl_iload_n hX 2 rfl dX5_end_5 ?_
  refine wl_iast hX k kc_26 rfl (by omega) dX5_end_6 ?_
  refine wl_aload_n hX 0 rfl dX5_end_7 ?_
  refine gf_X5_15 hX tb_515 dX5_end_8 ?_
  refine wl_iload_n hX 1 rfl dX5_end_11 ?_
  refine wl_iload_n hX 2 rfl dX5_end_12 ?_
  refine wl_bipush hX (v := (-40)) dX5_end_13 (by decide) ?_
  refine wl_bipush hX (v := 40) dX5_end_15 (by decide) ?_
  refine wl_cSi hX (c_X5_in hi (hx_u I 26 k v) J v (-40) 40) mv_X5_in tb_580 rfl rfl (by omega) (Nat.le_of_ble_eq_true rfl) dX5_end_17 ?_
  refine wl_zast hX k kc_27 rfl (by omega) (within_01 _ _ _) dX5_end_20 ?_
  exact wl_return hT dX5_end_21 ⟨rfl, rfl, rfl⟩

set_option maxHeartbeats 400000 in
theorem c_X5_isBetter {l : Launch} {D : va_G} {ad : Nat → Nat} {cy : Nat → ClassId} (hi : hx_inj ad) (I : MI) (J : MJ) (s : MS) (g c : Int32) (Q : Nat) (hQ : I 5 1 = nI Q) (hQ6 : Q ≤ 6) : Ct l D ad cy yX5_isBetter cX5_isBetter 4 (some .boolean) 0 [.ref (ad 5), .int g, .int c] (msM I s) J (hx_is (some (.int (btF Q s g c))) (msM I s) J) := by
  refine ct_start hi (by decide +kernel) (Nat.le_of_ble_eq_true rfl) (fun X hX hT => ?_)
  show X 0 [(0, .ref (ad 5)), (1, .int g), (2, .int c)] [] (msM I s) J
  have K15 : (s.2.2.2.2 = 0 ∨ ¬ g = s.2.2.1) → X 15 [(0, .ref (ad 5)), (1, .int g), (2, .int c)] [] (msM I s) J := by
    intro k1
    refine wl_aload_n hX 0 rfl dX5_isBetter_15 ?_
    refine gf_X5_20 hX tb_520 dX5_isBetter_16 ?_
    refine wl_eqi (y := s.2.2.2.2) rfl ?_
    refine wl_if_eq hX (tgt := 30) dX5_isBetter_19 (by decide) (fun h1 => ?_) (fun h1 => ?_)
    · refine wl_iconst hX (v := 1) dX5_isBetter_30 (by decide) ?_
      refine wl_goto hX (tgt := 35) dX5_isBetter_31 (by decide) ?_
      exact wl_zreturn hT dX5_isBetter_35 (by decide) (hx_ri (by unfold btF; rw [if_pos k1, if_pos (Or.inl h1)]))
    · refine wl_iload_n hX 1 rfl dX5_isBetter_22 ?_
      refine wl_aload_n hX 0 rfl dX5_isBetter_23 ?_
      refine gf_X5_18 hX tb_518 dX5_isBetter_24 ?_
      refine wl_eqi (y := s.2.2.1) rfl ?_
      refine wl_icmp_le hX (tgt := 34) dX5_isBetter_27 (by decide) (fun h2 => ?_) (fun h2 => ?_)
      · refine wl_iconst hX (v := 0) dX5_isBetter_34 (by decide) ?_
        exact wl_zreturn hT dX5_isBetter_35 (by decide) (hx_ri (by unfold btF; rw [if_pos k1, if_neg (fun y => y.elim h1 (fun y => by rw [Int32.lt_iff_toInt_lt] at y; rw [Int32.le_iff_toInt_le] at h2; omega))]))
      · refine wl_iconst hX (v := 1) dX5_isBetter_30 (by decide) ?_
        refine wl_goto hX (tgt := 35) dX5_isBetter_31 (by decide) ?_
        exact wl_zreturn hT dX5_isBetter_35 (by decide) (hx_ri (by unfold btF; rw [if_pos k1, if_pos (Or.inr (by rw [Int32.lt_iff_toInt_lt]; rw [Int32.le_iff_toInt_le] at h2; omega))]))
  have K36 : ¬ (s.2.2.2.2 = 0 ∨ ¬ g = s.2.2.1) → X 36 [(0, .ref (ad 5)), (1, .int g), (2, .int c)] [] (msM I s) J := by
    intro k1
    refine wl_iload_n hX 2 rfl dX5_isBetter_36 ?_
    refine wl_aload_n hX 0 rfl dX5_isBetter_37 ?_
    refine gf_X5_19 hX tb_519 dX5_isBetter_38 ?_
    refine wl_eqi (y := s.2.2.2.1) rfl ?_
    refine wl_icmp_eq hX (tgt := 58) dX5_isBetter_41 (by decide) (fun h1 => ?_) (fun h1 => ?_)
    · obtain ⟨res, hres⟩ : ∃ z : Int32, z = lxF s.1 s.2.1 Q 0 := ⟨_, rfl⟩
      have e9 : btF Q s g c = res := by
        unfold btF
        rw [if_neg k1, if_pos h1, ← hres]
      rw [e9] at hT
      refine wl_iconst hX (v := 0) dX5_isBetter_58 (by decide) ?_
      refine wl_istore_n hX (lv' := [(3, .int 0), (0, .ref (ad 5)), (1, .int g), (2, .int c)]) rfl (by decide) dX5_isBetter_59 ?_
      have L : ∀ (m q : Nat), q + m = Q → lxF s.1 s.2.1 m q = res → X 60 [(0, .ref (ad 5)), (1, .int g), (2, .int c), (3, .int (nI q))] [] (msM I s) J := by
        intro m
        induction m with
        | zero =>
          intro q hq hg
          refine wl_iload_n hX 3 rfl dX5_isBetter_60 ?_
          refine wl_aload_n hX 0 rfl dX5_isBetter_61 ?_
          refine gf_X5_1 hX tb_501 dX5_isBetter_62 ?_
          refine wl_eqi (y := nI Q) hQ ?_
          refine wl_icmp_ge hX (tgt := 110) dX5_isBetter_65 (by decide) (fun h9 => ?_) (fun h9 => absurd ((nI_leI (by omega) (by omega)).mpr (by omega)) h9)
          refine wl_iconst hX (v := 0) dX5_isBetter_110 (by decide) ?_
          exact wl_zreturn hT dX5_isBetter_111 (by decide) (hx_ri hg)
        | succ m ih =>
          intro q hq hg
          have hg2 : (if s.1 q = s.2.1 q then lxF s.1 s.2.1 m (q + 1) else if s.1 q < s.2.1 q then (1 : Int32) else 0) = res := hg
          refine wl_iload_n hX 3 rfl dX5_isBetter_60 ?_
          refine wl_aload_n hX 0 rfl dX5_isBetter_61 ?_
          refine gf_X5_1 hX tb_501 dX5_isBetter_62 ?_
          refine wl_eqi (y := nI Q) hQ ?_
          refine wl_icmp_ge hX (tgt := 110) dX5_isBetter_65 (by decide) (fun h9 => absurd h9 (fun z => absurd ((nI_leI (by omega) (by omega)).mp z) (by omega))) (fun h9 => ?_)
          refine wl_aload_n hX 0 rfl dX5_isBetter_68 ?_
          refine gf_X5_17 hX tb_517 dX5_isBetter_69 ?_
          refine wl_iload_n hX 3 rfl dX5_isBetter_72 ?_
          refine wl_iald hX q kc_29 rfl (by omega) dX5_isBetter_73 ?_
          refine wl_eqi (y := s.1 q) rfl ?_
          refine wl_aload_n hX 0 rfl dX5_isBetter_74 ?_
          refine gf_X5_16 hX tb_516 dX5_isBetter_75 ?_
          refine wl_iload_n hX 3 rfl dX5_isBetter_78 ?_
          refine wl_iald hX q kc_28 rfl (by omega) dX5_isBetter_79 ?_
          refine wl_eqi (y := s.2.1 q) rfl ?_
          refine wl_icmp_eq hX (tgt := 104) dX5_isBetter_80 (by decide) (fun h3 => ?_) (fun h3 => ?_)
          · rw [if_pos h3] at hg2
            refine wl_iinc hX (v := nI (q + 1)) (lv' := [(3, .int (nI (q + 1))), (0, .ref (ad 5)), (1, .int g), (2, .int c)]) 3 rfl (nI_1 _) rfl (by decide) dX5_isBetter_104 ?_
            refine wl_goto hX (tgt := 60) dX5_isBetter_107 (by decide) ?_
            refine wl_sub hX [1, 2, 3, 0] rfl ?_
            exact ih (q + 1) (by omega) hg2
          · rw [if_neg h3] at hg2
            refine wl_aload_n hX 0 rfl dX5_isBetter_83 ?_
            refine gf_X5_17 hX tb_517 dX5_isBetter_84 ?_
            refine wl_iload_n hX 3 rfl dX5_isBetter_87 ?_
            refine wl_iald hX q kc_29 rfl (by omega) dX5_isBetter_88 ?_
            refine wl_eqi (y := s.1 q) rfl ?_
            refine wl_aload_n hX 0 rfl dX5_isBetter_89 ?_
            refine gf_X5_16 hX tb_516 dX5_isBetter_90 ?_
            refine wl_iload_n hX 3 rfl dX5_isBetter_93 ?_
            refine wl_iald hX q kc_28 rfl (by omega) dX5_isBetter_94 ?_
            refine wl_eqi (y := s.2.1 q) rfl ?_
            refine wl_icmp_ge hX (tgt := 102) dX5_isBetter_95 (by decide) (fun h4 => ?_) (fun h4 => ?_)
            · refine wl_iconst hX (v := 0) dX5_isBetter_102 (by decide) ?_
              exact wl_zreturn hT dX5_isBetter_103 (by decide) (hx_ri (by rw [← hg2, if_neg (fun y => by rw [Int32.lt_iff_toInt_lt] at y; rw [Int32.le_iff_toInt_le] at h4; omega)]))
            · refine wl_iconst hX (v := 1) dX5_isBetter_98 (by decide) ?_
              refine wl_goto hX (tgt := 103) dX5_isBetter_99 (by decide) ?_
              exact wl_zreturn hT dX5_isBetter_103 (by decide) (hx_ri (by rw [← hg2, if_pos (by rw [Int32.lt_iff_toInt_lt]; rw [Int32.le_iff_toInt_le] at h4; omega)]))
      refine wl_sub hX [1, 2, 3, 0] rfl ?_
      exact L Q 0 (by omega) hres.symm
    · refine wl_iload_n hX 2 rfl dX5_isBetter_44 ?_
      refine wl_aload_n hX 0 rfl dX5_isBetter_45 ?_
      refine gf_X5_19 hX tb_519 dX5_isBetter_46 ?_
      refine wl_eqi (y := s.2.2.2.1) rfl ?_
      refine wl_icmp_ge hX (tgt := 56) dX5_isBetter_49 (by decide) (fun h2 => ?_) (fun h2 => ?_)
      · refine wl_iconst hX (v := 0) dX5_isBetter_56 (by decide) ?_
        exact wl_zreturn hT dX5_isBetter_57 (by decide) (hx_ri (by unfold btF; rw [if_neg k1, if_neg h1, if_neg (fun y => by rw [Int32.lt_iff_toInt_lt] at y; rw [Int32.le_iff_toInt_le] at h2; omega)]))
      · refine wl_iconst hX (v := 1) dX5_isBetter_52 (by decide) ?_
        refine wl_goto hX (tgt := 57) dX5_isBetter_53 (by decide) ?_
        exact wl_zreturn hT dX5_isBetter_57 (by decide) (hx_ri (by unfold btF; rw [if_neg k1, if_neg h1, if_pos (by rw [Int32.lt_iff_toInt_lt]; rw [Int32.le_iff_toInt_le] at h2; omega)]))
  refine wl_aload_n hX 0 rfl dX5_isBetter_0 ?_
  refine gf_X5_20 hX tb_520 dX5_isBetter_1 ?_
  refine wl_eqi (y := s.2.2.2.2) rfl ?_
  refine wl_if_eq hX (tgt := 15) dX5_isBetter_4 (by decide) (fun h1 => ?_) (fun h1 => ?_)
  · exact K15 (Or.inl h1)
  · refine wl_iload_n hX 1 rfl dX5_isBetter_7 ?_
    refine wl_aload_n hX 0 rfl dX5_isBetter_8 ?_
    refine gf_X5_18 hX tb_518 dX5_isBetter_9 ?_
    refine wl_eqi (y := s.2.2.1) rfl ?_
    refine wl_icmp_eq hX (tgt := 36) dX5_isBetter_12 (by decide) (fun h2 => ?_) (fun h2 => ?_)
    · exact K36 (fun y => y.elim h1 (fun x => x h2))
    · exact K15 (Or.inr h2)

set_option maxHeartbeats 400000 in
theorem c_X5_adopt {l : Launch} {D : va_G} {ad : Nat → Nat} {cy : Nat → ClassId} (hi : hx_inj ad) (I : MI) (J : MJ) (p : Nat) (hp : p < 12) (Q : Nat) (hQ : I 5 1 = nI Q) (hQ6 : Q ≤ 6) : Ct l D ad cy yX5_adopt cX5_adopt 3 none 0 [.ref (ad 5), .int (nI p)] I J (hx_is none (adM I p Q) J) := by
  refine ct_start hi (by decide +kernel) (Nat.le_of_ble_eq_true rfl) (fun X hX hT => ?_)
  show X 0 [(0, .ref (ad 5)), (1, .int (nI p))] [] I J
  refine wl_iconst hX (v := 0) dX5_adopt_0 (by decide) ?_
  refine wl_istore_n hX (lv' := [(2, .int 0), (0, .ref (ad 5)), (1, .int (nI p))]) rfl (by decide) dX5_adopt_1 ?_
  refine wl_sub hX [1, 2, 0] rfl ?_
  have L : ∀ (k q : Nat), q ≤ Q → Q - q < k → X 2 [(0, .ref (ad 5)), (1, .int (nI p)), (2, .int (nI q))] [] (adM I p q) J := by
    intro k
    induction k with
    | zero => exact fun _  _ h => absurd h (Nat.not_lt_zero _)
    | succ k ihL =>
      intro q  hqn hqk
      refine wl_iload_n hX 2 rfl dX5_adopt_2 ?_
      refine wl_aload_n hX 0 rfl dX5_adopt_3 ?_
      refine gf_X5_1 hX tb_501 dX5_adopt_4 ?_
      refine wl_eqi (y := nI Q) (by rw [adM_ne (by decide)]; exact hQ) ?_
      refine wl_icmp_ge hX (tgt := 33) dX5_adopt_7 (by decide) (fun hqc => ?_) (fun hqc => ?_)
      · have hqe : q = Q := by
          have h9 := (nI_leI (by omega) (by omega)).mp hqc
          omega
        exact wl_return hT dX5_adopt_33 ⟨rfl, by rw [hqe], rfl⟩
      · have hq1 : q < Q := Nat.lt_of_not_le (fun z => hqc ((nI_leI (by omega) (by omega)).mpr z))
        refine wl_aload_n hX 0 rfl dX5_adopt_10 ?_
        refine gf_X5_6 hX tb_506 dX5_adopt_11 ?_
        refine wl_bipush hX (v := 6) dX5_adopt_14 (by decide) ?_
        refine wl_iload_n hX 1 rfl dX5_adopt_16 ?_
        refine wl_imul hX dX5_adopt_17 ?_
        refine wl_iload_n hX 2 rfl dX5_adopt_18 ?_
        refine wl_iadd hX dX5_adopt_19 ?_
        refine wl_aload_n hX 0 rfl dX5_adopt_20 ?_
        refine gf_X5_16 hX tb_516 dX5_adopt_21 ?_
        refine wl_iload_n hX 2 rfl dX5_adopt_24 ?_
        refine wl_iald hX q kc_28 rfl (by omega) dX5_adopt_25 ?_
        refine wl_eqi (y := I 28 q) (by rw [adM_ne (by decide)]) ?_
        refine wl_iast hX (6 * p + q) kc_22 (hx_ix6 p q) (by omega) dX5_adopt_26 ?_
        refine wl_iinc hX (v := nI (q + 1)) (lv' := [(2, .int (nI (q + 1))), (0, .ref (ad 5)), (1, .int (nI p))]) 2 rfl (nI_1 _) rfl (by decide) dX5_adopt_27 ?_
        refine wl_goto hX (tgt := 2) dX5_adopt_30 (by decide) ?_
        refine wl_sub hX [1, 2, 0] rfl ?_
        exact ihL (q + 1) (by omega) (by omega)
  exact L (Q + 1) 0 (by omega) (by omega)

set_option maxHeartbeats 400000 in
theorem c_X5_keep {l : Launch} {D : va_G} {ad : Nat → Nat} {cy : Nat → ClassId} (hi : hx_inj ad) (I : MI) (J : MJ) (r : Nat) (hr : r < 31) : Ct l D ad cy yX5_keep cX5_keep 3 none 0 [.ref (ad 5), .int (nI r)] I J (hx_is none (kpM I r 72) J) := by
  refine ct_start hi (by decide +kernel) (Nat.le_of_ble_eq_true rfl) (fun X hX hT => ?_)
  show X 0 [(0, .ref (ad 5)), (1, .int (nI r))] [] I J
  refine wl_iconst hX (v := 0) dX5_keep_0 (by decide) ?_
  refine wl_istore_n hX (lv' := [(2, .int 0), (0, .ref (ad 5)), (1, .int (nI r))]) rfl (by decide) dX5_keep_1 ?_
  refine wl_sub hX [1, 2, 0] rfl ?_
  have L : ∀ (k i : Nat), i ≤ 72 → 72 - i < k → X 2 [(0, .ref (ad 5)), (1, .int (nI r)), (2, .int (nI i))] [] (kpM I r i) J := by
    intro k
    induction k with
    | zero => exact fun _  _ h => absurd h (Nat.not_lt_zero _)
    | succ k ihL =>
      intro i  hin hik
      refine wl_iload_n hX 2 rfl dX5_keep_2 ?_
      refine wl_bipush hX (v := 72) dX5_keep_3 (by decide) ?_
      refine wl_eqi (y := nI 72) (by decide) ?_
      refine wl_icmp_ge hX (tgt := 31) dX5_keep_5 (by decide) (fun hic => ?_) (fun hic => ?_)
      · have hie : i = 72 := by
          have h9 := (nI_leI (by omega) (by omega)).mp hic
          omega
        exact wl_return hT dX5_keep_31 ⟨rfl, by rw [hie], rfl⟩
      · have hi1 : i < 72 := Nat.lt_of_not_le (fun z => hic ((nI_leI (by omega) (by omega)).mpr z))
        refine wl_aload_n hX 0 rfl dX5_keep_8 ?_
        refine gf_X5_21 hX tb_521 dX5_keep_9 ?_
        refine wl_bipush hX (v := 72) dX5_keep_12 (by decide) ?_
        refine wl_iload_n hX 1 rfl dX5_keep_14 ?_
        refine wl_imul hX dX5_keep_15 ?_
        refine wl_iload_n hX 2 rfl dX5_keep_16 ?_
        refine wl_iadd hX dX5_keep_17 ?_
        refine wl_aload_n hX 0 rfl dX5_keep_18 ?_
        refine gf_X5_6 hX tb_506 dX5_keep_19 ?_
        refine wl_iload_n hX 2 rfl dX5_keep_22 ?_
        refine wl_iald hX i kc_22 rfl (by omega) dX5_keep_23 ?_
        refine wl_eqi (y := I 22 i) (by rw [kpM_ne (by decide)]) ?_
        refine wl_iast hX (72 * r + i) kc_30 (hx_ix72 r i) (by omega) dX5_keep_24 ?_
        refine wl_iinc hX (v := nI (i + 1)) (lv' := [(2, .int (nI (i + 1))), (0, .ref (ad 5)), (1, .int (nI r))]) 2 rfl (nI_1 _) rfl (by decide) dX5_keep_25 ?_
        refine wl_goto hX (tgt := 2) dX5_keep_28 (by decide) ?_
        refine wl_sub hX [1, 2, 0] rfl ?_
        exact ihL (i + 1) (by omega) (by omega)
  exact L (72 + 1) 0 (by omega) (by omega)

set_option maxHeartbeats 400000 in
theorem c_X5_isAsBehind {l : Launch} {D : va_G} {ad : Nat → Nat} {cy : Nat → ClassId} (hi : hx_inj ad) (I : MI) (J : MJ) (r : Nat) (hr : r < 31) : Ct l D ad cy yX5_isAsBehind cX5_isAsBehind 4 (some .boolean) 0 [.ref (ad 5), .int (nI r)] I J (hx_is (some (.int (asF I r 72))) I J) := by
  refine ct_start hi (by decide +kernel) (Nat.le_of_ble_eq_true rfl) (fun X hX hT => ?_)
  show X 0 [(0, .ref (ad 5)), (1, .int (nI r))] [] I J
  refine wl_iconst hX (v := 1) dX5_isAsBehind_0 (by decide) ?_
  refine wl_istore_n hX (lv' := [(2, .int 1), (0, .ref (ad 5)), (1, .int (nI r))]) rfl (by decide) dX5_isAsBehind_1 ?_
  refine wl_iconst hX (v := 0) dX5_isAsBehind_2 (by decide) ?_
  refine wl_istore_n hX (lv' := [(3, .int 0), (2, .int 1), (0, .ref (ad 5)), (1, .int (nI r))]) rfl (by decide) dX5_isAsBehind_3 ?_
  refine wl_sub hX [2, 3, 1, 0] rfl ?_
  have L : ∀ (k i : Nat), i ≤ 72 → 72 - i < k → X 4 [(0, .ref (ad 5)), (1, .int (nI r)), (2, .int (asF I r i)), (3, .int (nI i))] [] I J := by
    intro k
    induction k with
    | zero => exact fun _  _ h => absurd h (Nat.not_lt_zero _)
    | succ k ihL =>
      intro i  hin hik
      refine wl_iload_n hX 3 rfl dX5_isAsBehind_4 ?_
      refine wl_bipush hX (v := 72) dX5_isAsBehind_5 (by decide) ?_
      refine wl_eqi (y := nI 72) (by decide) ?_
      refine wl_icmp_ge hX (tgt := 46) dX5_isAsBehind_7 (by decide) (fun hic => ?_) (fun hic => ?_)
      · have hie : i = 72 := by
          have h9 := (nI_leI (by omega) (by omega)).mp hic
          omega
        refine wl_iload_n hX 2 rfl dX5_isAsBehind_46 ?_
        exact wl_zreturn hT dX5_isAsBehind_47 (asF_01 I r i) (hx_ri (by rw [hie]))
      · have hi1 : i < 72 := Nat.lt_of_not_le (fun z => hic ((nI_leI (by omega) (by omega)).mpr z))
        have e2 : asF I r (i + 1) = if asF I r i = 0 ∨ ¬ I 30 (72 * r + i) = I 22 i then (0 : Int32) else 1 := rfl
        refine wl_iload_n hX 2 rfl dX5_isAsBehind_10 ?_
        refine wl_if_eq hX (tgt := 38) dX5_isAsBehind_11 (by decide) (fun h2 => ?_) (fun h2 => ?_)
        · rw [if_pos (Or.inl h2)] at e2
          refine wl_iconst hX (v := 0) dX5_isAsBehind_38 (by decide) ?_
          refine wl_eqi (y := asF I r (i + 1)) e2.symm ?_
          refine wl_istore_n hX (lv' := [(2, .int (asF I r (i + 1))), (0, .ref (ad 5)), (1, .int (nI r)), (3, .int (nI i))]) rfl (by decide) dX5_isAsBehind_39 ?_
          refine wl_iinc hX (v := nI (i + 1)) (lv' := [(3, .int (nI (i + 1))), (2, .int (asF I r (i + 1))), (0, .ref (ad 5)), (1, .int (nI r))]) 3 rfl (nI_1 _) rfl (by decide) dX5_isAsBehind_40 ?_
          refine wl_goto hX (tgt := 4) dX5_isAsBehind_43 (by decide) ?_
          refine wl_sub hX [2, 3, 1, 0] rfl ?_
          exact ihL (i + 1) (by omega) (by omega)
        · refine wl_aload_n hX 0 rfl dX5_isAsBehind_14 ?_
          refine gf_X5_21 hX tb_521 dX5_isAsBehind_15 ?_
          refine wl_bipush hX (v := 72) dX5_isAsBehind_18 (by decide) ?_
          refine wl_iload_n hX 1 rfl dX5_isAsBehind_20 ?_
          refine wl_imul hX dX5_isAsBehind_21 ?_
          refine wl_iload_n hX 3 rfl dX5_isAsBehind_22 ?_
          refine wl_iadd hX dX5_isAsBehind_23 ?_
          refine wl_iald hX (72 * r + i) kc_30 (hx_ix72 r i) (by omega) dX5_isAsBehind_24 ?_
          refine wl_aload_n hX 0 rfl dX5_isAsBehind_25 ?_
          refine gf_X5_6 hX tb_506 dX5_isAsBehind_26 ?_
          refine wl_iload_n hX 3 rfl dX5_isAsBehind_29 ?_
          refine wl_iald hX i kc_22 rfl (by omega) dX5_isAsBehind_30 ?_
          refine wl_icmp_ne hX (tgt := 38) dX5_isAsBehind_31 (by decide) (fun h3 => ?_) (fun h3 => ?_)
          · rw [if_pos (Or.inr h3)] at e2
            refine wl_iconst hX (v := 0) dX5_isAsBehind_38 (by decide) ?_
            refine wl_eqi (y := asF I r (i + 1)) e2.symm ?_
            refine wl_istore_n hX (lv' := [(2, .int (asF I r (i + 1))), (0, .ref (ad 5)), (1, .int (nI r)), (3, .int (nI i))]) rfl (by decide) dX5_isAsBehind_39 ?_
            refine wl_iinc hX (v := nI (i + 1)) (lv' := [(3, .int (nI (i + 1))), (2, .int (asF I r (i + 1))), (0, .ref (ad 5)), (1, .int (nI r))]) 3 rfl (nI_1 _) rfl (by decide) dX5_isAsBehind_40 ?_
            refine wl_goto hX (tgt := 4) dX5_isAsBehind_43 (by decide) ?_
            refine wl_sub hX [2, 3, 1, 0] rfl ?_
            exact ihL (i + 1) (by omega) (by omega)
          · rw [if_neg (fun y => y.elim h2 (fun x => x h3))] at e2
            refine wl_iconst hX (v := 1) dX5_isAsBehind_34 (by decide) ?_
            refine wl_goto hX (tgt := 39) dX5_isAsBehind_35 (by decide) ?_
            refine wl_eqi (y := asF I r (i + 1)) e2.symm ?_
            refine wl_istore_n hX (lv' := [(2, .int (asF I r (i + 1))), (0, .ref (ad 5)), (1, .int (nI r)), (3, .int (nI i))]) rfl (by decide) dX5_isAsBehind_39 ?_
            refine wl_iinc hX (v := nI (i + 1)) (lv' := [(3, .int (nI (i + 1))), (2, .int (asF I r (i + 1))), (0, .ref (ad 5)), (1, .int (nI r))]) 3 rfl (nI_1 _) rfl (by decide) dX5_isAsBehind_40 ?_
            refine wl_goto hX (tgt := 4) dX5_isAsBehind_43 (by decide) ?_
            refine wl_sub hX [2, 3, 1, 0] rfl ?_
            exact ihL (i + 1) (by omega) (by omega)
  exact L (72 + 1) 0 (by omega) (by omega)

set_option maxHeartbeats 400000 in
theorem c_X5_mix {l : Launch} {D : va_G} {ad : Nat → Nat} {cy : Nat → ClassId} (hi : hx_inj ad) (I : MI) (J : MJ) (v : Int64) : Ct l D ad cy yX5_mix cX5_mix 3 none 0 [.ref (ad 5), .long v] I J (hx_is none I (hx_uJ J 5 24 (31 * J 5 24 + v))) := by
  refine ct_start hi (by decide +kernel) (Nat.le_of_ble_eq_true rfl) (fun X hX hT => ?_)
  show X 0 [(0, .ref (ad 5)), (1, .long v)] [] I J
  refine wl_aload_n hX 0 rfl dX5_mix_0 ?_
  refine wl_ldc2 hX tb_775 dX5_mix_1 ?_
  refine wl_aload_n hX 0 rfl dX5_mix_4 ?_
  refine gf_X5_24 hX tb_524 dX5_mix_5 ?_
  refine wl_lmul hX dX5_mix_8 ?_
  refine wl_lload_n hX 1 rfl dX5_mix_9 ?_
  refine wl_ladd hX dX5_mix_10 ?_
  refine pf_X5_24 hX tb_524 dX5_mix_11 ?_
  exact wl_return hT dX5_mix_14 ⟨rfl, rfl, rfl⟩

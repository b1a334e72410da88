/-! the reference: play -/
set_option maxHeartbeats 400000 in
theorem c_X5_play {l : Launch} {D : va_G} {ad : Nat → Nat} {cy : Nat → ClassId} (hi : hx_inj ad) (I : MI) (J : MJ) (x : Int32) (P : Nat) (hP : I 5 0 = nI P) (hP12 : P ≤ 12) (Q : Nat) (hQ : I 5 1 = nI Q) (hQ6 : Q ≤ 6) : Ct l D ad cy yX5_play cX5_play 5 (some .int) 4 [.ref (ad 5), .int x] I J (hx_is (some (.int (playR (fun N => nI (mpF P Q N 0 (mp0 I)).1) x))) (hx_if (¬ withinF x 1 30 = 0) (mpF P Q (xN x) 0 (mp0 I)).2 I) J) := by
  refine ct_start hi (by decide +kernel) (Nat.le_of_ble_eq_true rfl) (fun X hX hT => ?_)
  show X 0 [(0, .ref (ad 5)), (1, .int x)] [] I J
  refine wl_iload_n hX 1 rfl dX5_play_0 ?_
  refine wl_iconst hX (v := 1) dX5_play_1 (by decide) ?_
  refine wl_bipush hX (v := 30) dX5_play_2 (by decide) ?_
  refine wl_cSi hX (c_X5_in hi I J x 1 30) mv_X5_in tb_580 rfl rfl (by omega) (Nat.le_of_ble_eq_true rfl) dX5_play_4 ?_
  refine wl_if_ne hX (tgt := 13) dX5_play_7 (by decide) (fun h1 => ?_) (fun h1 => ?_)
  · have k1 := within_of h1
    rw [hx_ifp h1] at hT
    obtain ⟨N, hN, rfl⟩ := nI_of2 (x := x) (M := 30) (n := 30) (by decide) (fun w => by have w1 := Int32.le_iff_toInt_le.mp k1.1; rw [Int32.lt_iff_toInt_lt] at w; have e0 : (0 : Int32).toInt = 0 := (by decide); have e1 : (1 : Int32).toInt = 1 := (by decide); omega) k1.2
    have xp : xN (nI N) = N := xN_nI (by omega)
    rw [xp] at hT
    refine wl_aload_n hX 0 rfl dX5_play_13 ?_
    refine wl_iconst hX (v := 0) dX5_play_14 (by decide) ?_
    refine pf_X5_12 hX tb_512 dX5_play_15 ?_
    refine wl_aload_n hX 0 rfl dX5_play_18 ?_
    refine wl_iconst hX (v := 0) dX5_play_19 (by decide) ?_
    refine pf_X5_13 hX tb_513 dX5_play_20 ?_
    refine wl_aload_n hX 0 rfl dX5_play_23 ?_
    refine wl_iconst hX (v := 0) dX5_play_24 (by decide) ?_
    refine wl_cVv hX (c_X5_keep hi (hx_u (hx_u I 5 12 0) 5 13 0) J 0 (by omega)) mv_X5_keep tb_693 (by decide) rfl rfl rfl rfl (by omega) (Nat.le_of_ble_eq_true rfl) dX5_play_25 ?_
    refine wl_iconst hX (v := 0) dX5_play_28 (by decide) ?_
    refine wl_istore_n hX (lv' := [(2, .int 0), (0, .ref (ad 5)), (1, .int (nI N))]) rfl (by decide) dX5_play_29 ?_
    refine wl_sub hX [1, 2, 0] rfl ?_
    obtain ⟨res, hres⟩ : ∃ z : Nat × MI, z = (mpF P Q N 0 (mp0 I)) := ⟨_, rfl⟩
    have e9 : playR (fun N => nI (mpF P Q N 0 (mp0 I)).1) (nI N) = nI res.1 := by unfold playR; rw [if_neg h1, xp, hres]
    rw [e9, ← hres] at hT
    have L : ∀ (f d : Nat) (M : MI), d + f = N → M 5 0 = nI P → M 5 1 = nI Q → mpF P Q f d M = res → X 30 [(0, .ref (ad 5)), (1, .int (nI N)), (2, .int (nI d))] [] M J := by
      intro f
      induction f with
      | zero =>
        intro d M hd m1 m2 hg
        refine wl_iload_n hX 2 rfl dX5_play_30 ?_
        refine wl_iload_n hX 1 rfl dX5_play_31 ?_
        refine wl_icmp_ge hX (tgt := 184) dX5_play_32 (by decide) (fun h9 => ?_) (fun h9 => absurd ((nI_leI (by omega) (by omega)).mpr (by omega)) h9)
        refine wl_iload_n hX 2 rfl dX5_play_184 ?_
        exact wl_ireturn hT dX5_play_185 ⟨by rw [← hg]; rfl, by rw [← hg]; rfl, rfl⟩
      | succ f ih =>
        intro d M hd m1 m2 hg
        have hg2 : (if M 5 12 = 0 then mpF P Q f (d + 1) (mpR P Q d M) else (d, M)) = res := hg
        refine wl_iload_n hX 2 rfl dX5_play_30 ?_
        refine wl_iload_n hX 1 rfl dX5_play_31 ?_
        refine wl_icmp_ge hX (tgt := 184) dX5_play_32 (by decide) (fun h9 => absurd h9 (fun z => absurd ((nI_leI (by omega) (by omega)).mp z) (by omega))) (fun h9 => ?_)
        refine wl_aload_n hX 0 rfl dX5_play_35 ?_
        refine gf_X5_12 hX tb_512 dX5_play_36 ?_
        refine wl_if_ne hX (tgt := 184) dX5_play_39 (by decide) (fun h2 => ?_) (fun h2 => ?_)
        · rw [if_neg h2] at hg2
          refine wl_iload_n hX 2 rfl dX5_play_184 ?_
          exact wl_ireturn hT dX5_play_185 ⟨by rw [← hg2], by rw [← hg2], rfl⟩
        · rw [if_pos h2] at hg2
          refine wl_iinc hX (v := nI (d + 1)) (lv' := [(2, .int (nI (d + 1))), (0, .ref (ad 5)), (1, .int (nI N))]) 2 rfl (nI_1 _) rfl (by decide) dX5_play_42 ?_
          refine wl_aload_n hX 1 rfl dX5_play_45 ?_
          refine wl_dup hX dX5_play_46 rfl ?_
          refine gf_X5_10 hX tb_510 dX5_play_47 ?_
          refine wl_iconst hX (v := 1) dX5_play_50 (by decide) ?_
          refine wl_iadd hX dX5_play_51 ?_
          refine pf_X5_10 hX tb_510 dX5_play_52 ?_
          refine wl_mem (I' := (m1F M)) rfl rfl ?_
          have n1 : m1F M 5 0 = nI P := by rw [m1F_5 (by decide)]; exact m1
          have n2 : m1F M 5 1 = nI Q := by rw [m1F_5 (by decide)]; exact m2
          refine wl_iconst hX (v := 0) dX5_play_55 (by decide) ?_
          refine wl_istore_n hX (lv' := [(3, .int 0), (2, .int (nI (d + 1))), (0, .ref (ad 5)), (1, .int (nI N))]) rfl (by decide) dX5_play_56 ?_
          refine wl_iconst hX (v := 0) dX5_play_57 (by decide) ?_
          refine wl_istore hX (lv' := [(4, .int 0), (3, .int 0), (2, .int (nI (d + 1))), (0, .ref (ad 5)), (1, .int (nI N))]) rfl (by decide) dX5_play_58 ?_
          refine wl_sub hX [3, 4, 2, 1, 0] rfl ?_
          have A : ∀ (k p : Nat), p ≤ P → P - p < k → X 60 [(0, .ref (ad 5)), (1, .int (nI N)), (2, .int (nI (d + 1))), (3, .int ((mrF P Q (m1F M) p).2)), (4, .int (nI p))] [] ((mrF P Q (m1F M) p).1) J := by
            intro k
            induction k with
            | zero => exact fun _  _ h => absurd h (Nat.not_lt_zero _)
            | succ k ihA =>
              intro p  hpn hpk
              have d1 : (mrF P Q (m1F M) p).1 5 0 = nI P := by rw [mrF_5 (by decide) (by decide) (by decide) (by decide)]; exact n1
              have d2 : (mrF P Q (m1F M) p).1 5 1 = nI Q := by rw [mrF_5 (by decide) (by decide) (by decide) (by decide)]; exact n2
              refine wl_iload hX 4 rfl dX5_play_60 ?_
              refine wl_aload_n hX 0 rfl dX5_play_62 ?_
              refine gf_X5_0 hX tb_500 dX5_play_63 ?_
              refine wl_eqi (y := nI P) d1 ?_
              refine wl_icmp_ge hX (tgt := 122) dX5_play_66 (by decide) (fun hpc => ?_) (fun hpc => ?_)
              · have hpe : p = P := by
                  have h9 := (nI_leI (by omega) (by omega)).mp hpc
                  omega
                rw [hpe]
                have q1 : meF (mrF P Q (m1F M) P) 5 0 = nI P := by rw [meF_5 (by decide), mrF_5 (by decide) (by decide) (by decide) (by decide)]; exact n1
                have q2 : meF (mrF P Q (m1F M) P) 5 1 = nI Q := by rw [meF_5 (by decide), mrF_5 (by decide) (by decide) (by decide) (by decide)]; exact n2
                have K : X 131 [(0, .ref (ad 5)), (1, .int (nI N)), (2, .int (nI (d + 1))), (3, .int ((mrF P Q (m1F M) P).2)), (4, .int (nI P))] [] (meF (mrF P Q (m1F M) P)) J := by
                  refine wl_iload_n hX 2 rfl dX5_play_131 ?_
                  refine wl_iconst hX (v := 1) dX5_play_132 (by decide) ?_
                  refine wl_isub hX dX5_play_133 ?_
                  refine wl_istore hX (lv' := [(4, .int ((nI (d + 1)) - 1)), (0, .ref (ad 5)), (1, .int (nI N)), (2, .int (nI (d + 1))), (3, .int ((mrF P Q (m1F M) P).2))]) rfl (by decide) dX5_play_134 ?_
                  refine wl_sub hX [1, 2, 3, 4, 0] rfl ?_
                  obtain ⟨r2, hr2⟩ : ∃ z : MI, z = mkF (d + 1) (d + 1) (meF (mrF P Q (m1F M) P)) := ⟨_, rfl⟩
                  have B : ∀ (k : Nat) (M2 : MI), k ≤ d + 1 → mkF (d + 1) k M2 = r2 → X 136 [(0, .ref (ad 5)), (1, .int (nI N)), (2, .int (nI (d + 1))), (3, .int ((mrF P Q (m1F M) P).2)), (4, .int (nI k - 1))] [] M2 J := by
                    intro k
                    induction k with
                    | zero =>
                      intro M2 hk hg3
                      have hg4 : M2 = r2 := hg3
                      refine wl_iload hX 4 rfl dX5_play_136 ?_
                      refine wl_if_lt hX (tgt := 176) dX5_play_138 (by decide) (fun h8 => ?_) (fun h8 => absurd (by decide) h8)
                      refine wl_aload_n hX 0 rfl dX5_play_176 ?_
                      refine wl_iload_n hX 2 rfl dX5_play_177 ?_
                      rw [hg4]
                      refine wl_cVv hX (c_X5_keep hi r2 J (d + 1) (by omega)) mv_X5_keep tb_693 (by decide) rfl rfl rfl rfl (by omega) (Nat.le_of_ble_eq_true rfl) dX5_play_178 ?_
                      refine wl_goto hX (tgt := 30) dX5_play_181 (by decide) ?_
                      refine wl_sub hX [0, 1, 2] rfl ?_
                      have e7 : kpM r2 (d + 1) 72 = mpR P Q d M := by rw [hr2]; rfl
                      rw [e7]
                      exact ih (d + 1) _ (by omega) (by rw [mpR_5 (by decide)]; exact m1) (by rw [mpR_5 (by decide)]; exact m2) hg2
                    | succ k ihk =>
                      intro M2 hk hg3
                      have hg4 : (if M2 5 12 = 0 then (if asF M2 k 72 = 0 then mkF (d + 1) k M2 else mkF (d + 1) k (hx_u (hx_u M2 5 12 2) 5 13 (nI (d + 1) - nI k))) else M2) = r2 := hg3
                      rw [nI_pred]
                      refine wl_iload hX 4 rfl dX5_play_136 ?_
                      refine wl_if_lt hX (tgt := 176) dX5_play_138 (by decide) (fun h8 => absurd h8 (nI_pos (by omega))) (fun h8 => ?_)
                      refine wl_aload_n hX 0 rfl dX5_play_141 ?_
                      refine gf_X5_12 hX tb_512 dX5_play_142 ?_
                      refine wl_if_ne hX (tgt := 176) dX5_play_145 (by decide) (fun h7 => ?_) (fun h7 => ?_)
                      · rw [if_neg h7] at hg4
                        refine wl_aload_n hX 0 rfl dX5_play_176 ?_
                        refine wl_iload_n hX 2 rfl dX5_play_177 ?_
                        rw [hg4]
                        refine wl_cVv hX (c_X5_keep hi r2 J (d + 1) (by omega)) mv_X5_keep tb_693 (by decide) rfl rfl rfl rfl (by omega) (Nat.le_of_ble_eq_true rfl) dX5_play_178 ?_
                        refine wl_goto hX (tgt := 30) dX5_play_181 (by decide) ?_
                        refine wl_sub hX [0, 1, 2] rfl ?_
                        have e7 : kpM r2 (d + 1) 72 = mpR P Q d M := by rw [hr2]; rfl
                        rw [e7]
                        exact ih (d + 1) _ (by omega) (by rw [mpR_5 (by decide)]; exact m1) (by rw [mpR_5 (by decide)]; exact m2) hg2
                      · rw [if_pos h7] at hg4
                        refine wl_aload_n hX 0 rfl dX5_play_148 ?_
                        refine wl_iload hX 4 rfl dX5_play_149 ?_
                        refine wl_cVi hX (c_X5_isAsBehind hi M2 J k (by omega)) mv_X5_isAsBehind tb_697 (by decide) rfl rfl rfl rfl (by omega) (Nat.le_of_ble_eq_true rfl) dX5_play_151 ?_
                        refine wl_if_eq hX (tgt := 170) dX5_play_154 (by decide) (fun h6 => ?_) (fun h6 => ?_)
                        · rw [if_pos h6] at hg4
                          refine wl_iinc hX (v := nI k - 1) (lv' := [(4, .int (nI k - 1)), (0, .ref (ad 5)), (1, .int (nI N)), (2, .int (nI (d + 1))), (3, .int ((mrF P Q (m1F M) P).2))]) 4 rfl (by exact (hx_m1 (nI k))) rfl (by decide) dX5_play_170 ?_
                          refine wl_goto hX (tgt := 136) dX5_play_173 (by decide) ?_
                          refine wl_sub hX [1, 2, 3, 4, 0] rfl ?_
                          exact ihk _ (by omega) hg4
                        · rw [if_neg h6] at hg4
                          refine wl_aload_n hX 0 rfl dX5_play_157 ?_
                          refine wl_iconst hX (v := 2) dX5_play_158 (by decide) ?_
                          refine pf_X5_12 hX tb_512 dX5_play_159 ?_
                          refine wl_aload_n hX 0 rfl dX5_play_162 ?_
                          refine wl_iload_n hX 2 rfl dX5_play_163 ?_
                          refine wl_iload hX 4 rfl dX5_play_164 ?_
                          refine wl_isub hX dX5_play_166 ?_
                          refine pf_X5_13 hX tb_513 dX5_play_167 ?_
                          refine wl_iinc hX (v := nI k - 1) (lv' := [(4, .int (nI k - 1)), (0, .ref (ad 5)), (1, .int (nI N)), (2, .int (nI (d + 1))), (3, .int ((mrF P Q (m1F M) P).2))]) 4 rfl (by exact (hx_m1 (nI k))) rfl (by decide) dX5_play_170 ?_
                          refine wl_goto hX (tgt := 136) dX5_play_173 (by decide) ?_
                          refine wl_sub hX [1, 2, 3, 4, 0] rfl ?_
                          exact ihk _ (by omega) hg4
                  have B0 := B (d + 1) (meF (mrF P Q (m1F M) P)) (Nat.le_refl _) hr2.symm
                  exact B0
                refine wl_iload_n hX 3 rfl dX5_play_122 ?_
                refine wl_if_ne hX (tgt := 131) dX5_play_123 (by decide) (fun h3 => ?_) (fun h3 => ?_)
                · have e3 : (mrF P Q (m1F M) P).1 = (meF (mrF P Q (m1F M) P)) := by unfold meF; rw [if_neg h3]
                  rw [e3]
                  exact K
                · refine wl_aload_n hX 0 rfl dX5_play_126 ?_
                  refine wl_iconst hX (v := 1) dX5_play_127 (by decide) ?_
                  refine pf_X5_12 hX tb_512 dX5_play_128 ?_
                  refine wl_mem (I' := (meF (mrF P Q (m1F M) P))) (by unfold meF; rw [if_pos h3]) rfl ?_
                  exact K
              · have hp1 : p < P := Nat.lt_of_not_le (fun z => hpc ((nI_leI (by omega) (by omega)).mpr z))
                have e2 : (mrF P Q (m1F M) (p + 1)) = if (mrF P Q (m1F M) p).1 21 p = 0 then (mrF P Q (m1F M) p) else if gainF ((fmM (mrF P Q (m1F M) p).1 P Q p) 21) (vM (fmM (mrF P Q (m1F M) p).1 P Q p)) (wM (fmM (mrF P Q (m1F M) p).1 P Q p)) P Q p < (fmM (mrF P Q (m1F M) p).1 P Q p) 5 18 then (hx_u (adM (fmM (mrF P Q (m1F M) p).1 P Q p) p Q) 5 11 ((fmM (mrF P Q (m1F M) p).1 P Q p) 5 11 + 1), 1) else ((fmM (mrF P Q (m1F M) p).1 P Q p), (mrF P Q (m1F M) p).2) := rfl
                refine wl_aload_n hX 0 rfl dX5_play_69 ?_
                refine gf_X5_5 hX tb_505 dX5_play_70 ?_
                refine wl_iload hX 4 rfl dX5_play_73 ?_
                refine wl_zald hX p kc_21 rfl (by omega) dX5_play_75 ?_
                refine wl_if_eq hX (tgt := 116) dX5_play_76 (by decide) (fun h3 => ?_) (fun h3 => ?_)
                · rw [if_pos h3] at e2
                  rw [← e2]
                  refine wl_iinc hX (v := nI (p + 1)) (lv' := [(4, .int (nI (p + 1))), (0, .ref (ad 5)), (1, .int (nI N)), (2, .int (nI (d + 1))), (3, .int ((mrF P Q (m1F M) (p + 1)).2))]) 4 rfl (nI_1 _) rfl (by decide) dX5_play_116 ?_
                  refine wl_goto hX (tgt := 60) dX5_play_119 (by decide) ?_
                  refine wl_sub hX [1, 2, 3, 4, 0] rfl ?_
                  exact ihA (p + 1) (by omega) (by omega)
                · rw [if_neg h3] at e2
                  have f1 : (fmM (mrF P Q (m1F M) p).1 P Q p) 5 0 = nI P := by rw [fmM_5 (by decide) (by decide) (by decide)]; exact d1
                  have f2 : (fmM (mrF P Q (m1F M) p).1 P Q p) 5 1 = nI Q := by rw [fmM_5 (by decide) (by decide) (by decide)]; exact d2
                  refine wl_aload_n hX 0 rfl dX5_play_79 ?_
                  refine wl_iload hX 4 rfl dX5_play_80 ?_
                  refine wl_cVv hX (c_X5_find hi (mrF P Q (m1F M) p).1 J P d1 hP12 p (by omega) Q d2 hQ6) mv_X5_find tb_665 (by decide) rfl rfl rfl rfl (by omega) (Nat.le_of_ble_eq_true rfl) dX5_play_82 ?_
                  refine wl_aload_n hX 0 rfl dX5_play_85 ?_
                  refine gf_X5_18 hX tb_518 dX5_play_86 ?_
                  refine wl_aload_n hX 0 rfl dX5_play_89 ?_
                  refine wl_iload hX 4 rfl dX5_play_90 ?_
                  refine wl_cVi hX (c_X5_gainOf hi (fmM (mrF P Q (m1F M) p).1 P Q p) J p (by omega) P f1 hP12 Q f2 hQ6) mv_X5_gainOf tb_649 (by decide) rfl rfl rfl rfl (by omega) (Nat.le_of_ble_eq_true rfl) dX5_play_92 ?_
                  refine wl_icmp_le hX (tgt := 116) dX5_play_95 (by decide) (fun h4 => ?_) (fun h4 => ?_)
                  · rw [if_neg (fun z => by rw [Int32.lt_iff_toInt_lt] at z; rw [Int32.le_iff_toInt_le] at h4; omega)] at e2
                    have e3 : (mrF P Q (m1F M) (p + 1)).1 = (fmM (mrF P Q (m1F M) p).1 P Q p) := by rw [e2]
                    have e4 : (mrF P Q (m1F M) (p + 1)).2 = (mrF P Q (m1F M) p).2 := by rw [e2]
                    rw [← e3, ← e4]
                    refine wl_iinc hX (v := nI (p + 1)) (lv' := [(4, .int (nI (p + 1))), (0, .ref (ad 5)), (1, .int (nI N)), (2, .int (nI (d + 1))), (3, .int ((mrF P Q (m1F M) (p + 1)).2))]) 4 rfl (nI_1 _) rfl (by decide) dX5_play_116 ?_
                    refine wl_goto hX (tgt := 60) dX5_play_119 (by decide) ?_
                    refine wl_sub hX [1, 2, 3, 4, 0] rfl ?_
                    exact ihA (p + 1) (by omega) (by omega)
                  · rw [if_pos (by rw [Int32.lt_iff_toInt_lt]; rw [Int32.le_iff_toInt_le] at h4; omega)] at e2
                    have e3 : (mrF P Q (m1F M) (p + 1)).1 = hx_u (adM (fmM (mrF P Q (m1F M) p).1 P Q p) p Q) 5 11 ((fmM (mrF P Q (m1F M) p).1 P Q p) 5 11 + 1) := by rw [e2]
                    have e4 : (mrF P Q (m1F M) (p + 1)).2 = 1 := by rw [e2]
                    refine wl_aload_n hX 0 rfl dX5_play_98 ?_
                    refine wl_iload hX 4 rfl dX5_play_99 ?_
                    refine wl_cVv hX (c_X5_adopt hi (fmM (mrF P Q (m1F M) p).1 P Q p) J p (by omega) Q f2 hQ6) mv_X5_adopt tb_685 (by decide) rfl rfl rfl rfl (by omega) (Nat.le_of_ble_eq_true rfl) dX5_play_101 ?_
                    refine wl_aload_n hX 0 rfl dX5_play_104 ?_
                    refine wl_dup hX dX5_play_105 rfl ?_
                    refine gf_X5_11 hX tb_511 dX5_play_106 ?_
                    refine wl_eqi (y := (fmM (mrF P Q (m1F M) p).1 P Q p) 5 11) (by rw [adM_ne (by decide)]) ?_
                    refine wl_iconst hX (v := 1) dX5_play_109 (by decide) ?_
                    refine wl_iadd hX dX5_play_110 ?_
                    refine pf_X5_11 hX tb_511 dX5_play_111 ?_
                    refine wl_mem (I' := (mrF P Q (m1F M) (p + 1)).1) e3.symm rfl ?_
                    refine wl_iconst hX (v := 1) dX5_play_114 (by decide) ?_
                    refine wl_eqi (y := (mrF P Q (m1F M) (p + 1)).2) e4.symm ?_
                    refine wl_istore_n hX (lv' := [(3, .int ((mrF P Q (m1F M) (p + 1)).2)), (0, .ref (ad 5)), (1, .int (nI N)), (2, .int (nI (d + 1))), (4, .int (nI p))]) rfl (by decide) dX5_play_115 ?_
                    refine wl_iinc hX (v := nI (p + 1)) (lv' := [(4, .int (nI (p + 1))), (3, .int ((mrF P Q (m1F M) (p + 1)).2)), (0, .ref (ad 5)), (1, .int (nI N)), (2, .int (nI (d + 1)))]) 4 rfl (nI_1 _) rfl (by decide) dX5_play_116 ?_
                    refine wl_goto hX (tgt := 60) dX5_play_119 (by decide) ?_
                    refine wl_sub hX [2, 3, 4, 1, 0] rfl ?_
                    exact ihA (p + 1) (by omega) (by omega)
          exact A (P + 1) 0 (by omega) (by omega)
    exact L N 0 _ (by omega) (by rw [kpM_ne (by decide)]; exact hP) (by rw [kpM_ne (by decide)]; exact hQ) hres.symm
  · rw [hx_ifn (fun w => w h1)] at hT
    refine wl_bipush hX (v := (-102)) dX5_play_10 (by decide) ?_
    exact wl_ireturn hT dX5_play_12 (hx_ri (by unfold playR; rw [if_pos h1]))

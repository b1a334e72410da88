/-! the reference: group -/
set_option maxHeartbeats 400000 in
theorem c_X5_group {l : Launch} {D : va_G} {ad : Nat → Nat} {cy : Nat → ClassId} (hi : hx_inj ad) (I : MI) (J : MJ) (x t : Int32) (P : Nat) (hP : I 5 0 = nI P) (hP12 : P ≤ 12) (Q : Nat) (hQ : I 5 1 = nI Q) (hQ6 : Q ≤ 6) : Ct l D ad cy yX5_group cX5_group 7 (some .int) 2 [.ref (ad 5), .int x, .int t] I J (hx_is (some (.int (groupR P (fun p => grF (alF (vM I) Q P t) P P (1 <<< (nI p &&& 31)) 0) x t))) I J) := by
  refine ct_start hi (by decide +kernel) (Nat.le_of_ble_eq_true rfl) (fun X hX hT => ?_)
  show X 0 [(0, .ref (ad 5)), (1, .int x), (2, .int t)] [] I J
  refine wl_aload_n hX 0 rfl dX5_group_0 ?_
  refine wl_iload_n hX 1 rfl dX5_group_1 ?_
  refine wl_cVi hX (c_X5_isPerson hi I J x P hP hP12) mv_X5_isPerson tb_599 (by decide) rfl rfl rfl rfl (by omega) (Nat.le_of_ble_eq_true rfl) dX5_group_2 ?_
  refine wl_if_ne hX (tgt := 11) dX5_group_5 (by decide) (fun h1 => ?_) (fun h1 => ?_)
  · have kb : ¬ inF x (nI P) = 0 := h1
    obtain ⟨p, hp, rfl⟩ := inF_of (by omega) h1
    have xp : xN (nI p) = p := xN_nI (by omega)
    refine wl_iload_n hX 2 rfl dX5_group_11 ?_
    refine wl_iconst hX (v := 1) dX5_group_12 (by decide) ?_
    refine wl_sipush hX (v := 1000) dX5_group_13 (by decide) ?_
    refine wl_cSi hX (c_X5_in hi I J t 1 1000) mv_X5_in tb_580 rfl rfl (by omega) (Nat.le_of_ble_eq_true rfl) dX5_group_16 ?_
    refine wl_if_ne hX (tgt := 25) dX5_group_19 (by decide) (fun h3 => ?_) (fun h3 => ?_)
    · obtain ⟨res, hres⟩ : ∃ z : Int32, z = grF (alF (vM I) Q P t) P P (1 <<< (nI p &&& 31)) 0 := ⟨_, rfl⟩
      have e0 : groupR P (fun p => grF (alF (vM I) Q P t) P P (1 <<< (nI p &&& 31)) 0) (nI p) t = res := by unfold groupR; rw [if_neg kb, if_neg h3, xp, hres]
      rw [e0] at hT
      have hal : ∀ a i, tb ((alF (vM I) Q P t) a) i = true → i < P := fun a i h => alike_tb P hP12 h
      refine wl_iconst hX (v := 1) dX5_group_25 (by decide) ?_
      refine wl_iload_n hX 1 rfl dX5_group_26 ?_
      refine wl_ishl hX dX5_group_27 ?_
      refine wl_istore_n hX (lv' := [(3, .int (1 <<< (nI p &&& 31))), (0, .ref (ad 5)), (1, .int (nI p)), (2, .int t)]) rfl (by decide) dX5_group_28 ?_
      refine wl_iconst hX (v := 0) dX5_group_29 (by decide) ?_
      refine wl_istore hX (lv' := [(4, .int 0), (3, .int (1 <<< (nI p &&& 31))), (0, .ref (ad 5)), (1, .int (nI p)), (2, .int t)]) rfl (by decide) dX5_group_30 ?_
      refine wl_sub hX [2, 3, 4, 1, 0] rfl ?_
      have E : X 32 [(0, .ref (ad 5)), (1, .int (nI p)), (2, .int t), (3, .int res), (4, .int res)] [] I J := by
        refine wl_iload_n hX 3 rfl dX5_group_32 ?_
        refine wl_iload hX 4 rfl dX5_group_33 ?_
        refine wl_icmp_eq hX (tgt := 113) dX5_group_35 (by decide) (fun h9 => ?_) (fun h9 => absurd rfl h9)
        refine wl_iload_n hX 3 rfl dX5_group_113 ?_
        exact wl_ireturn hT dX5_group_114 (hx_ri rfl)
      have L : ∀ (k n : Nat) (y b : Int32), unF y P < k → unF y P ≤ n → grF (alF (vM I) Q P t) P n y b = res → X 32 [(0, .ref (ad 5)), (1, .int (nI p)), (2, .int t), (3, .int y), (4, .int b)] [] I J := by
        intro k
        induction k with
        | zero => exact fun n y b h _ _ => absurd h (Nat.not_lt_zero _)
        | succ k ih =>
          intro n y b hk hn hg
          refine wl_iload_n hX 3 rfl dX5_group_32 ?_
          refine wl_iload hX 4 rfl dX5_group_33 ?_
          refine wl_icmp_eq hX (tgt := 113) dX5_group_35 (by decide) (fun h4 => ?_) (fun h4 => ?_)
          · refine wl_iload_n hX 3 rfl dX5_group_113 ?_
            exact wl_ireturn hT dX5_group_114 (hx_ri ((gr_eq h4 n).symm.trans hg))
          · refine wl_iload_n hX 3 rfl dX5_group_38 ?_
            refine wl_istore hX (lv' := [(4, .int y), (0, .ref (ad 5)), (1, .int (nI p)), (2, .int t), (3, .int y)]) rfl (by decide) dX5_group_39 ?_
            refine wl_iconst hX (v := 0) dX5_group_41 (by decide) ?_
            refine wl_istore hX (lv' := [(5, .int 0), (4, .int y), (0, .ref (ad 5)), (1, .int (nI p)), (2, .int t), (3, .int y)]) rfl (by decide) dX5_group_42 ?_
            refine wl_sub hX [2, 3, 4, 5, 1, 0] rfl ?_
            have A : ∀ (k a : Nat), a ≤ P → P - a < k → X 44 [(0, .ref (ad 5)), (1, .int (nI p)), (2, .int t), (3, .int (passF (alF (vM I) Q P t) a y)), (4, .int y), (5, .int (nI a))] [] I J := by
              intro k
              induction k with
              | zero => exact fun _  _ h => absurd h (Nat.not_lt_zero _)
              | succ k ihA =>
                intro a  han hak
                refine wl_iload hX 5 rfl dX5_group_44 ?_
                refine wl_aload_n hX 0 rfl dX5_group_46 ?_
                refine gf_X5_0 hX tb_500 dX5_group_47 ?_
                refine wl_eqi (y := nI P) hP ?_
                refine wl_icmp_ge hX (tgt := 110) dX5_group_50 (by decide) (fun hac => ?_) (fun hac => ?_)
                · have hae : a = P := by
                    have h9 := (nI_leI (by omega) (by omega)).mp hac
                    omega
                  rw [hae]
                  refine wl_goto hX (tgt := 32) dX5_group_110 (by decide) ?_
                  refine wl_sub hX [0, 1, 2, 3, 4] rfl ?_
                  by_cases c : passF (alF (vM I) Q P t) P y = y
                  · have e5 : y = res := (gr_fix c n).symm.trans hg
                    rw [c, e5]
                    exact E
                  · have h5 := pass_lt hal c
                    obtain ⟨n2, rfl⟩ : ∃ z, n = z + 1 := ⟨n - 1, by omega⟩
                    have hg2 : (if y = b then y else grF (alF (vM I) Q P t) P n2 (passF (alF (vM I) Q P t) P y) y) = res := hg
                    rw [if_neg h4] at hg2
                    exact ih n2 _ _ (by omega) (by omega) hg2
                · have ha1 : a < P := Nat.lt_of_not_le (fun z => hac ((nI_leI (by omega) (by omega)).mpr z))
                  obtain ⟨w, hw⟩ : ∃ z : Int32, z = passF (alF (vM I) Q P t) a y := ⟨_, rfl⟩
                  have e6 : passF (alF (vM I) Q P t) (a + 1) y = gxF (vM I) Q t w a P := by rw [hw]; rfl
                  rw [← hw]
                  refine wl_iconst hX (v := 0) dX5_group_53 (by decide) ?_
                  refine wl_istore hX (lv' := [(6, .int 0), (0, .ref (ad 5)), (1, .int (nI p)), (2, .int t), (3, .int w), (4, .int y), (5, .int (nI a))]) rfl (by decide) dX5_group_54 ?_
                  refine wl_sub hX [1, 2, 3, 4, 5, 6, 0] rfl ?_
                  have B : ∀ (k r : Nat), r ≤ P → P - r < k → X 56 [(0, .ref (ad 5)), (1, .int (nI p)), (2, .int t), (3, .int (gxF (vM I) Q t w a r)), (4, .int y), (5, .int (nI a)), (6, .int (nI r))] [] I J := by
                    intro k
                    induction k with
                    | zero => exact fun _  _ h => absurd h (Nat.not_lt_zero _)
                    | succ k ihB =>
                      intro r  hrn hrk
                      refine wl_iload hX 6 rfl dX5_group_56 ?_
                      refine wl_aload_n hX 0 rfl dX5_group_58 ?_
                      refine gf_X5_0 hX tb_500 dX5_group_59 ?_
                      refine wl_eqi (y := nI P) hP ?_
                      refine wl_icmp_ge hX (tgt := 104) dX5_group_62 (by decide) (fun hrc => ?_) (fun hrc => ?_)
                      · have hre : r = P := by
                          have h9 := (nI_leI (by omega) (by omega)).mp hrc
                          omega
                        rw [hre]
                        rw [← e6]
                        refine wl_iinc hX (v := nI (a + 1)) (lv' := [(5, .int (nI (a + 1))), (0, .ref (ad 5)), (1, .int (nI p)), (2, .int t), (3, .int (passF (alF (vM I) Q P t) (a + 1) y)), (4, .int y), (6, .int (nI P))]) 5 rfl (nI_1 _) rfl (by decide) dX5_group_104 ?_
                        refine wl_goto hX (tgt := 44) dX5_group_107 (by decide) ?_
                        refine wl_sub hX [1, 2, 3, 4, 5, 0] rfl ?_
                        exact ihA (a + 1) (by omega) (by omega)
                      · have hr1 : r < P := Nat.lt_of_not_le (fun z => hrc ((nI_leI (by omega) (by omega)).mpr z))
                        have e7 : alikeF (vM I) Q t a (r + 1) = alikeF (vM I) Q t a r ||| (if likeF (vM I) Q a r < t then (0 : Int32) else 1 <<< (nI r &&& 31)) := rfl
                        refine wl_iload_n hX 3 rfl dX5_group_65 ?_
                        refine wl_iload_n hX 3 rfl dX5_group_66 ?_
                        refine wl_iload hX 5 rfl dX5_group_67 ?_
                        refine wl_ishr hX dX5_group_69 ?_
                        refine wl_iconst hX (v := 1) dX5_group_70 (by decide) ?_
                        refine wl_iand hX dX5_group_71 ?_
                        refine wl_iconst hX (v := 1) dX5_group_72 (by decide) ?_
                        refine wl_icmp_ne hX (tgt := 95) dX5_group_73 (by decide) (fun h6 => ?_) (fun h6 => ?_)
                        · have k6 : ¬ (w >>> (nI a &&& 31)) &&& 1 = 1 := fun z => h6 ((gx_bit (by omega)).mpr z)
                          refine wl_iconst hX (v := 0) dX5_group_95 (by decide) ?_
                          refine wl_ior hX dX5_group_96 ?_
                          refine wl_eqi (y := gxF (vM I) Q t w a (r + 1)) (by rw [i_or0]; unfold gxF; rw [if_neg k6, if_neg k6]) ?_
                          refine wl_istore_n hX (lv' := [(3, .int (gxF (vM I) Q t w a (r + 1))), (0, .ref (ad 5)), (1, .int (nI p)), (2, .int t), (4, .int y), (5, .int (nI a)), (6, .int (nI r))]) rfl (by decide) dX5_group_97 ?_
                          refine wl_iinc hX (v := nI (r + 1)) (lv' := [(6, .int (nI (r + 1))), (3, .int (gxF (vM I) Q t w a (r + 1))), (0, .ref (ad 5)), (1, .int (nI p)), (2, .int t), (4, .int y), (5, .int (nI a))]) 6 rfl (nI_1 _) rfl (by decide) dX5_group_98 ?_
                          refine wl_goto hX (tgt := 56) dX5_group_101 (by decide) ?_
                          refine wl_sub hX [2, 3, 4, 1, 5, 6, 0] rfl ?_
                          exact ihB (r + 1) (by omega) (by omega)
                        · have k6 : (w >>> (nI a &&& 31)) &&& 1 = 1 := (gx_bit (by omega)).mp h6
                          refine wl_aload_n hX 0 rfl dX5_group_76 ?_
                          refine wl_iload hX 5 rfl dX5_group_77 ?_
                          refine wl_iload hX 6 rfl dX5_group_79 ?_
                          refine wl_cVi hX (c_X5_likenessOf hi I J a r (by omega) (by omega) Q hQ hQ6) mv_X5_likenessOf tb_754 (by decide) rfl rfl rfl rfl (by omega) (Nat.le_of_ble_eq_true rfl) dX5_group_81 ?_
                          refine wl_iload_n hX 2 rfl dX5_group_84 ?_
                          refine wl_icmp_lt hX (tgt := 95) dX5_group_85 (by decide) (fun h7 => ?_) (fun h7 => ?_)
                          · refine wl_iconst hX (v := 0) dX5_group_95 (by decide) ?_
                            refine wl_ior hX dX5_group_96 ?_
                            refine wl_eqi (y := gxF (vM I) Q t w a (r + 1)) (by rw [i_or0]; unfold gxF; rw [if_pos k6, if_pos k6, e7, if_pos h7, i_or0]) ?_
                            refine wl_istore_n hX (lv' := [(3, .int (gxF (vM I) Q t w a (r + 1))), (0, .ref (ad 5)), (1, .int (nI p)), (2, .int t), (4, .int y), (5, .int (nI a)), (6, .int (nI r))]) rfl (by decide) dX5_group_97 ?_
                            refine wl_iinc hX (v := nI (r + 1)) (lv' := [(6, .int (nI (r + 1))), (3, .int (gxF (vM I) Q t w a (r + 1))), (0, .ref (ad 5)), (1, .int (nI p)), (2, .int t), (4, .int y), (5, .int (nI a))]) 6 rfl (nI_1 _) rfl (by decide) dX5_group_98 ?_
                            refine wl_goto hX (tgt := 56) dX5_group_101 (by decide) ?_
                            refine wl_sub hX [2, 3, 4, 1, 5, 6, 0] rfl ?_
                            exact ihB (r + 1) (by omega) (by omega)
                          · refine wl_iconst hX (v := 1) dX5_group_88 (by decide) ?_
                            refine wl_iload hX 6 rfl dX5_group_89 ?_
                            refine wl_ishl hX dX5_group_91 ?_
                            refine wl_goto hX (tgt := 96) dX5_group_92 (by decide) ?_
                            refine wl_ior hX dX5_group_96 ?_
                            refine wl_eqi (y := gxF (vM I) Q t w a (r + 1)) (by unfold gxF; rw [if_pos k6, if_pos k6, e7, if_neg h7, i_orA]) ?_
                            refine wl_istore_n hX (lv' := [(3, .int (gxF (vM I) Q t w a (r + 1))), (0, .ref (ad 5)), (1, .int (nI p)), (2, .int t), (4, .int y), (5, .int (nI a)), (6, .int (nI r))]) rfl (by decide) dX5_group_97 ?_
                            refine wl_iinc hX (v := nI (r + 1)) (lv' := [(6, .int (nI (r + 1))), (3, .int (gxF (vM I) Q t w a (r + 1))), (0, .ref (ad 5)), (1, .int (nI p)), (2, .int t), (4, .int y), (5, .int (nI a))]) 6 rfl (nI_1 _) rfl (by decide) dX5_group_98 ?_
                            refine wl_goto hX (tgt := 56) dX5_group_101 (by decide) ?_
                            refine wl_sub hX [2, 3, 4, 1, 5, 6, 0] rfl ?_
                            exact ihB (r + 1) (by omega) (by omega)
                  have a0 := B (P + 1) 0 (by omega) (by omega)
                  rw [gx_0] at a0
                  exact a0
            exact A (P + 1) 0 (by omega) (by omega)
      exact L (P + 1) P _ _ (by have := unF_le (1 <<< (nI p &&& 31)) P; omega) (unF_le _ _) hres.symm
    · refine wl_bipush hX (v := (-102)) dX5_group_22 (by decide) ?_
      exact wl_ireturn hT dX5_group_24 (hx_ri (by unfold groupR; rw [if_neg kb, if_pos h3]))
  · refine wl_bipush hX (v := (-101)) dX5_group_8 (by decide) ?_
    exact wl_ireturn hT dX5_group_10 (hx_ri (by unfold groupR; rw [if_pos h1]))

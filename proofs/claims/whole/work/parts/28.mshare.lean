/-! the reference: share -/
def msF (I : MI) (P i : Nat) : Int64 := mOfF (gM I) (bM I) i 0 0 P
theorem lkN_z {x : Int64} (h : lkN x = 0) : ¬ 0 < x := fun c => by
  unfold lkN at h
  rw [if_pos c] at h
  rw [Int64.lt_iff_toInt_lt] at c
  have e : (0 : Int64).toInt = 0 := by decide
  omega
theorem lkN_s {x : Int64} {n : Nat} (h : lkN x = n + 1) : 0 < x ∧ lkN (x - 1) = n := by
  by_cases c : 0 < x
  · refine ⟨c, ?_⟩
    unfold lkN at h ⊢
    rw [if_pos c] at h
    have c2 := Int64.lt_iff_toInt_lt.mp c
    have e : (0 : Int64).toInt = 0 := by decide
    have e1 : (1 : Int64).toInt = 1 := by decide
    have hx : x.toInt < 2 ^ 63 := Int64.toInt_lt x
    have e2 : (x - 1).toInt = x.toInt - 1 := by
      rw [Int64.toInt_sub, e1]
      exact Int.bmod_eq_of_le (by omega) (by omega)
    by_cases c3 : 0 < x - 1
    · rw [if_pos c3, e2]
      omega
    · rw [if_neg c3]
      rw [Int64.lt_iff_toInt_lt, e2] at c3
      omega
  · unfold lkN at h
    rw [if_neg c] at h
    omega
set_option maxHeartbeats 400000 in
theorem c_X5_share {l : Launch} {D : va_G} {ad : Nat → Nat} {cy : Nat → ClassId} (hi : hx_inj ad) (I : MI) (J : MJ) (x : Int32) (pot : Int64) (P : Nat) (hP : I 5 0 = nI P) (hP12 : P ≤ 12) (R : Nat) (hR : I 5 2 = nI R) (hR6 : R ≤ 6) : Ct l D ad cy yX5_share cX5_share 10 (some .long) 2 [.ref (ad 5), .int x, .long pot] I J (hx_is (some (.long (shareR R (mshR J (msF I P) R) x pot))) I (hx_if (shareW R x pot) (mshJ J (msF I P) R pot) J)) := by
  refine ct_start hi (by decide +kernel) (Nat.le_of_ble_eq_true rfl) (fun X hX hT => ?_)
  show X 0 [(0, .ref (ad 5)), (1, .int x), (2, .long pot)] [] I J
  refine wl_aload_n hX 0 rfl dX5_share_0 ?_
  refine wl_iload_n hX 1 rfl dX5_share_1 ?_
  refine wl_cVi hX (c_X5_isProject hi I J x R hR hR6) mv_X5_isProject tb_713 (by decide) rfl rfl rfl rfl (by omega) (Nat.le_of_ble_eq_true rfl) dX5_share_2 ?_
  refine wl_if_ne hX (tgt := 12) dX5_share_5 (by decide) (fun h1 => ?_) (fun h1 => ?_)
  · have kb : ¬ inF x (nI R) = 0 := h1
    obtain ⟨p, hp, rfl⟩ := inF_of (by omega) h1
    have xp : xN (nI p) = p := xN_nI (by omega)
    refine wl_lload_n hX 2 rfl dX5_share_12 ?_
    refine wl_lconst hX (v := 0) dX5_share_13 (by decide) ?_
    refine wl_lif_lt hX (tgt := 26) dX5_share_14 dX5_share_15 (by decide) (fun h3 => ?_) (fun h3 => ?_)
    · rw [hx_ifn (fun w => w.2 (Or.inl h3))] at hT
      refine wl_ldc2 hX tb_739 dX5_share_26 ?_
      exact wl_lreturn hT dX5_share_29 (hx_rl (by unfold shareR; rw [if_neg kb, if_pos (Or.inl h3)]))
    · refine wl_lload_n hX 2 rfl dX5_share_18 ?_
      refine wl_ldc2 hX tb_744 dX5_share_19 ?_
      refine wl_lif_le hX (tgt := 30) dX5_share_22 dX5_share_23 (by decide) (fun h4 => ?_) (fun h4 => ?_)
      · have k4 : ¬ (pot < 0 ∨ 1000000000 < pot) := fun w => w.elim h3 (fun y => by rw [Int64.lt_iff_toInt_lt] at y; rw [Int64.le_iff_toInt_le] at h4; omega)
        have e0 : shareR R (mshR J (msF I P) R) (nI p) pot = mshR J (msF I P) R p pot := by unfold shareR; rw [if_neg kb, if_neg k4, xp]
        rw [hx_ifp ⟨kb, k4⟩, e0] at hT
        refine wl_lconst hX (v := 0) dX5_share_30 (by decide) ?_
        refine wl_lstore hX (lv' := [(4, .long 0), (0, .ref (ad 5)), (1, .int (nI p)), (2, .long pot)]) rfl (by decide) dX5_share_31 ?_
        refine wl_iconst hX (v := 0) dX5_share_33 (by decide) ?_
        refine wl_istore hX (lv' := [(6, .int 0), (4, .long 0), (0, .ref (ad 5)), (1, .int (nI p)), (2, .long pot)]) rfl (by decide) dX5_share_34 ?_
        refine wl_mem (J' := (shJ J (J 31) (J 32))) rfl (shJ_self J).symm ?_
        refine wl_sub hX [2, 3, 4, 1, 0] rfl ?_
        have L : ∀ (k i : Nat), i ≤ R → R - i < k → X 36 [(0, .ref (ad 5)), (1, .int (nI p)), (2, .long pot), (4, .long (sJ (msF I P) i)), (6, .int (nI i))] [] I (shJ J (rwF (J 31) (msF I P) i) (J 32)) := by
          intro k
          induction k with
          | zero => exact fun _  _ h => absurd h (Nat.not_lt_zero _)
          | succ k ihL =>
            intro i  hin hik
            refine wl_iload hX 4 rfl dX5_share_36 ?_
            refine wl_aload_n hX 0 rfl dX5_share_38 ?_
            refine gf_X5_2 hX tb_502 dX5_share_39 ?_
            refine wl_eqi (y := nI R) hR ?_
            refine wl_icmp_ge hX (tgt := 78) dX5_share_42 (by decide) (fun hic => ?_) (fun hic => ?_)
            · have hie : i = R := by
                have h9 := (nI_leI (by omega) (by omega)).mp hic
                omega
              rw [hie]
              refine wl_lload hX 3 rfl dX5_share_78 ?_
              refine wl_lconst hX (v := 0) dX5_share_80 (by decide) ?_
              refine wl_lif_ne hX (tgt := 87) dX5_share_81 dX5_share_82 (by decide) (fun h5 => ?_) (fun h5 => ?_)
              · have e1 : mshR J (msF I P) R p pot = (mshS J (msF I P) R pot).1 p := by unfold mshR; rw [if_neg h5]
                have e3 : mshJ J (msF I P) R pot = shJ J (mshS J (msF I P) R pot).1 (mshS J (msF I P) R pot).2 := by unfold mshJ; rw [hx_ifn h5]
                rw [e1, e3] at hT
                refine wl_lload_n hX 2 rfl dX5_share_87 ?_
                refine wl_lstore hX (lv' := [(6, .long pot), (0, .ref (ad 5)), (1, .int (nI p)), (2, .long pot), (4, .long (sJ (msF I P) R))]) rfl (by decide) dX5_share_88 ?_
                refine wl_iconst hX (v := 0) dX5_share_90 (by decide) ?_
                refine wl_istore hX (lv' := [(8, .int 0), (6, .long pot), (0, .ref (ad 5)), (1, .int (nI p)), (2, .long pot), (4, .long (sJ (msF I P) R))]) rfl (by decide) dX5_share_91 ?_
                refine wl_sub hX [2, 3, 4, 5, 1, 0] rfl ?_
                have A : ∀ (k i : Nat), i ≤ R → R - i < k → X 93 [(0, .ref (ad 5)), (1, .int (nI p)), (2, .long pot), (4, .long (sJ (msF I P) R)), (6, .long (lackF (msF I P) (sJ (msF I P) R) pot i)), (8, .int (nI i))] [] I (shJ J (rwF (rwF (J 31) (msF I P) R) (mshP (msF I P) pot (sJ (msF I P) R)) i) (rwF (J 32) (mshQ (msF I P) pot (sJ (msF I P) R)) i)) := by
                  intro k
                  induction k with
                  | zero => exact fun _  _ h => absurd h (Nat.not_lt_zero _)
                  | succ k ihA =>
                    intro i  hin hik
                    refine wl_iload hX 5 rfl dX5_share_93 ?_
                    refine wl_aload_n hX 0 rfl dX5_share_95 ?_
                    refine gf_X5_2 hX tb_502 dX5_share_96 ?_
                    refine wl_eqi (y := nI R) hR ?_
                    refine wl_icmp_ge hX (tgt := 158) dX5_share_99 (by decide) (fun hic => ?_) (fun hic => ?_)
                    · have hie : i = R := by
                        have h9 := (nI_leI (by omega) (by omega)).mp hic
                        omega
                      rw [hie]
                      obtain ⟨res, hres⟩ : ∃ z : (Nat → Int64) × (Nat → Int64), z = mshS J (msF I P) R pot := ⟨_, rfl⟩
                      rw [← hres] at hT
                      refine wl_sub hX [0, 1, 2, 3, 4] rfl ?_
                      have B : ∀ (n : Nat) (x : Int64) (p1 r1 : Nat → Int64), lkN x = n → shN R n (p1, r1) = res → X 158 [(0, .ref (ad 5)), (1, .int (nI p)), (2, .long pot), (4, .long (sJ (msF I P) R)), (6, .long x)] [] I (shJ J p1 r1) := by
                        intro n
                        induction n with
                        | zero =>
                          intro x p1 r1 hx0 hg
                          have hg2 : (p1, r1) = res := hg
                          refine wl_lload hX 4 rfl dX5_share_158 ?_
                          refine wl_lconst hX (v := 0) dX5_share_160 (by decide) ?_
                          refine wl_lif_le hX (tgt := 243) dX5_share_161 dX5_share_162 (by decide) (fun h9 => ?_) (fun h9 => absurd (by have := lkN_z hx0; rw [Int64.lt_iff_toInt_lt] at this; rw [Int64.le_iff_toInt_le]; omega) h9)
                          refine wl_aload_n hX 0 rfl dX5_share_243 ?_
                          refine gf_X5_22 hX tb_522 dX5_share_244 ?_
                          refine wl_iload_n hX 1 rfl dX5_share_247 ?_
                          refine wl_lald hX p kc_31 rfl (by omega) dX5_share_248 ?_
                          exact wl_lreturn hT dX5_share_249 ⟨by rw [← hg2]; rfl, rfl, by rw [← hg2]⟩
                        | succ n ih =>
                          intro x p1 r1 hx0 hg
                          have hg2 : shN R n (vp_updL p1 (bxF r1 (R - 1)) (p1 (bxF r1 (R - 1)) + 1), vp_updL r1 (bxF r1 (R - 1)) (-1)) = res := hg
                          have hx1 := lkN_s hx0
                          refine wl_lload hX 4 rfl dX5_share_158 ?_
                          refine wl_lconst hX (v := 0) dX5_share_160 (by decide) ?_
                          refine wl_lif_le hX (tgt := 243) dX5_share_161 dX5_share_162 (by decide) (fun h9 => absurd h9 (fun z => by have := hx1.1; rw [Int64.lt_iff_toInt_lt] at this; rw [Int64.le_iff_toInt_le] at z; omega)) (fun h9 => ?_)
                          refine wl_iconst hX (v := 0) dX5_share_165 (by decide) ?_
                          refine wl_istore hX (lv' := [(8, .int 0), (0, .ref (ad 5)), (1, .int (nI p)), (2, .long pot), (4, .long (sJ (msF I P) R)), (6, .long x)]) rfl (by decide) dX5_share_166 ?_
                          refine wl_iconst hX (v := 1) dX5_share_168 (by decide) ?_
                          refine wl_istore hX (lv' := [(9, .int 1), (8, .int 0), (0, .ref (ad 5)), (1, .int (nI p)), (2, .long pot), (4, .long (sJ (msF I P) R)), (6, .long x)]) rfl (by decide) dX5_share_169 ?_
                          refine wl_sub hX [2, 3, 4, 5, 6, 1, 0] rfl ?_
                          have C : ∀ (f k : Nat), k + 1 + f = R → X 171 [(0, .ref (ad 5)), (1, .int (nI p)), (2, .long pot), (4, .long (sJ (msF I P) R)), (6, .long x), (8, .int (nI (bxF r1 k))), (9, .int (nI (k + 1)))] [] I (shJ J p1 r1) := by
                            intro f
                            induction f with
                            | zero =>
                              intro k hk
                              have hbk := bxF_le r1 k
                              have ek : R - 1 = k := by omega
                              rw [ek] at hg2
                              refine wl_iload hX 6 rfl dX5_share_171 ?_
                              refine wl_aload_n hX 0 rfl dX5_share_173 ?_
                              refine gf_X5_2 hX tb_502 dX5_share_174 ?_
                              refine wl_eqi (y := nI R) hR ?_
                              refine wl_icmp_ge hX (tgt := 213) dX5_share_177 (by decide) (fun h8 => ?_) (fun h8 => absurd ((nI_leI (by omega) (by omega)).mpr (by omega)) h8)
                              refine wl_aload_n hX 0 rfl dX5_share_213 ?_
                              refine gf_X5_23 hX tb_523 dX5_share_214 ?_
                              refine wl_iload hX 5 rfl dX5_share_217 ?_
                              refine wl_ldc2 hX tb_745 dX5_share_219 ?_
                              refine wl_last hX (bxF r1 k) kc_32 rfl (by omega) dX5_share_222 ?_
                              refine wl_mem (J' := (shJ J p1 (vp_updL r1 (bxF r1 k) (-1)))) rfl (shJ_r J p1 r1 (bxF r1 k) (-1)) ?_
                              refine wl_aload_n hX 0 rfl dX5_share_223 ?_
                              refine gf_X5_22 hX tb_522 dX5_share_224 ?_
                              refine wl_iload hX 5 rfl dX5_share_227 ?_
                              refine wl_dup2_11 hX dX5_share_229 rfl rfl ?_
                              refine wl_lald hX (bxF r1 k) kc_31 rfl (by omega) dX5_share_230 ?_
                              refine wl_eql (y := p1 (bxF r1 k)) rfl ?_
                              refine wl_lconst hX (v := 1) dX5_share_231 (by decide) ?_
                              refine wl_ladd hX dX5_share_232 ?_
                              refine wl_last hX (bxF r1 k) kc_31 rfl (by omega) dX5_share_233 ?_
                              refine wl_mem (J' := (shJ J (vp_updL p1 (bxF r1 k) (p1 (bxF r1 k) + 1)) (vp_updL r1 (bxF r1 k) (-1)))) rfl (shJ_p J p1 (vp_updL r1 (bxF r1 k) (-1)) (bxF r1 k) (p1 (bxF r1 k) + 1)) ?_
                              refine wl_lload hX 4 rfl dX5_share_234 ?_
                              refine wl_lconst hX (v := 1) dX5_share_236 (by decide) ?_
                              refine wl_lsub hX dX5_share_237 ?_
                              refine wl_lstore hX (lv' := [(6, .long (x - 1)), (0, .ref (ad 5)), (1, .int (nI p)), (2, .long pot), (4, .long (sJ (msF I P) R)), (8, .int (nI (bxF r1 k))), (9, .int (nI (k + 1)))]) rfl (by decide) dX5_share_238 ?_
                              refine wl_goto hX (tgt := 158) dX5_share_240 (by decide) ?_
                              refine wl_sub hX [1, 2, 3, 4, 0] rfl ?_
                              exact ih (x - 1) _ _ hx1.2 hg2
                            | succ f ihf =>
                              intro k hk
                              have hbk := bxF_le r1 k
                              refine wl_iload hX 6 rfl dX5_share_171 ?_
                              refine wl_aload_n hX 0 rfl dX5_share_173 ?_
                              refine gf_X5_2 hX tb_502 dX5_share_174 ?_
                              refine wl_eqi (y := nI R) hR ?_
                              refine wl_icmp_ge hX (tgt := 213) dX5_share_177 (by decide) (fun h8 => absurd h8 (fun z => absurd ((nI_leI (by omega) (by omega)).mp z) (by omega))) (fun h8 => ?_)
                              have e2 : bxF r1 (k + 1) = if r1 (bxF r1 k) < r1 (k + 1) then k + 1 else bxF r1 k := rfl
                              refine wl_aload_n hX 0 rfl dX5_share_180 ?_
                              refine gf_X5_23 hX tb_523 dX5_share_181 ?_
                              refine wl_iload hX 6 rfl dX5_share_184 ?_
                              refine wl_lald hX (k + 1) kc_32 rfl (by omega) dX5_share_186 ?_
                              refine wl_eql (y := r1 (k + 1)) rfl ?_
                              refine wl_aload_n hX 0 rfl dX5_share_187 ?_
                              refine gf_X5_23 hX tb_523 dX5_share_188 ?_
                              refine wl_iload hX 5 rfl dX5_share_191 ?_
                              refine wl_lald hX (bxF r1 k) kc_32 rfl (by omega) dX5_share_193 ?_
                              refine wl_eql (y := r1 (bxF r1 k)) rfl ?_
                              refine wl_lif_le hX (tgt := 203) dX5_share_194 dX5_share_195 (by decide) (fun h7 => ?_) (fun h7 => ?_)
                              · rw [if_neg (fun z => by rw [Int64.lt_iff_toInt_lt] at z; rw [Int64.le_iff_toInt_le] at h7; omega)] at e2
                                refine wl_iload hX 5 rfl dX5_share_203 ?_
                                refine wl_eqi (y := nI (bxF r1 (k + 1))) (by rw [e2]) ?_
                                refine wl_istore hX (lv' := [(8, .int (nI (bxF r1 (k + 1)))), (0, .ref (ad 5)), (1, .int (nI p)), (2, .long pot), (4, .long (sJ (msF I P) R)), (6, .long x), (9, .int (nI (k + 1)))]) rfl (by decide) dX5_share_205 ?_
                                refine wl_iinc hX (v := nI ((k + 1) + 1)) (lv' := [(9, .int (nI ((k + 1) + 1))), (8, .int (nI (bxF r1 (k + 1)))), (0, .ref (ad 5)), (1, .int (nI p)), (2, .long pot), (4, .long (sJ (msF I P) R)), (6, .long x)]) 6 rfl (nI_1 _) rfl (by decide) dX5_share_207 ?_
                                refine wl_goto hX (tgt := 171) dX5_share_210 (by decide) ?_
                                refine wl_sub hX [2, 3, 4, 5, 6, 1, 0] rfl ?_
                                exact ihf (k + 1) (by omega)
                              · rw [if_pos (by rw [Int64.lt_iff_toInt_lt]; rw [Int64.le_iff_toInt_le] at h7; omega)] at e2
                                refine wl_iload hX 6 rfl dX5_share_198 ?_
                                refine wl_goto hX (tgt := 205) dX5_share_200 (by decide) ?_
                                refine wl_eqi (y := nI (bxF r1 (k + 1))) (by rw [e2]) ?_
                                refine wl_istore hX (lv' := [(8, .int (nI (bxF r1 (k + 1)))), (0, .ref (ad 5)), (1, .int (nI p)), (2, .long pot), (4, .long (sJ (msF I P) R)), (6, .long x), (9, .int (nI (k + 1)))]) rfl (by decide) dX5_share_205 ?_
                                refine wl_iinc hX (v := nI ((k + 1) + 1)) (lv' := [(9, .int (nI ((k + 1) + 1))), (8, .int (nI (bxF r1 (k + 1)))), (0, .ref (ad 5)), (1, .int (nI p)), (2, .long pot), (4, .long (sJ (msF I P) R)), (6, .long x)]) 6 rfl (nI_1 _) rfl (by decide) dX5_share_207 ?_
                                refine wl_goto hX (tgt := 171) dX5_share_210 (by decide) ?_
                                refine wl_sub hX [2, 3, 4, 5, 6, 1, 0] rfl ?_
                                exact ihf (k + 1) (by omega)
                          exact C (R - 1) 0 (by omega)
                      exact B _ _ _ _ rfl hres.symm
                    · have hi1 : i < R := Nat.lt_of_not_le (fun z => hic ((nI_leI (by omega) (by omega)).mpr z))
                      refine wl_aload_n hX 0 rfl dX5_share_102 ?_
                      refine gf_X5_23 hX tb_523 dX5_share_103 ?_
                      refine wl_iload hX 5 rfl dX5_share_106 ?_
                      refine wl_lload_n hX 2 rfl dX5_share_108 ?_
                      refine wl_aload_n hX 0 rfl dX5_share_109 ?_
                      refine gf_X5_22 hX tb_522 dX5_share_110 ?_
                      refine wl_iload hX 5 rfl dX5_share_113 ?_
                      refine wl_lald hX i kc_31 rfl (by omega) dX5_share_115 ?_
                      refine wl_eql (y := msF I P i) ((rwF_hi (rwF (J 31) (msF I P) R) (mshP (msF I P) pot (sJ (msF I P) R)) i i (Nat.le_refl _)).trans (rwF_lo (J 31) (msF I P) R i (by omega))) ?_
                      refine wl_lmul hX dX5_share_116 ?_
                      refine wl_lload hX 3 rfl dX5_share_117 ?_
                      refine wl_lrem hX dX5_share_119 h5 ?_
                      refine wl_eql (y := remF (pot * (msF I P i)) (sJ (msF I P) R)) rfl ?_
                      refine wl_last hX i kc_32 rfl (by omega) dX5_share_120 ?_
                      refine wl_mem (J' := (shJ J (rwF (rwF (J 31) (msF I P) R) (mshP (msF I P) pot (sJ (msF I P) R)) i) (rwF (J 32) (mshQ (msF I P) pot (sJ (msF I P) R)) (i + 1)))) rfl (shJ_r J (rwF (rwF (J 31) (msF I P) R) (mshP (msF I P) pot (sJ (msF I P) R)) i) (rwF (J 32) (mshQ (msF I P) pot (sJ (msF I P) R)) i) i (mshQ (msF I P) pot (sJ (msF I P) R) i)) ?_
                      refine wl_aload_n hX 0 rfl dX5_share_121 ?_
                      refine gf_X5_22 hX tb_522 dX5_share_122 ?_
                      refine wl_iload hX 5 rfl dX5_share_125 ?_
                      refine wl_lload_n hX 2 rfl dX5_share_127 ?_
                      refine wl_aload_n hX 0 rfl dX5_share_128 ?_
                      refine gf_X5_22 hX tb_522 dX5_share_129 ?_
                      refine wl_iload hX 5 rfl dX5_share_132 ?_
                      refine wl_lald hX i kc_31 rfl (by omega) dX5_share_134 ?_
                      refine wl_eql (y := msF I P i) ((rwF_hi (rwF (J 31) (msF I P) R) (mshP (msF I P) pot (sJ (msF I P) R)) i i (Nat.le_refl _)).trans (rwF_lo (J 31) (msF I P) R i (by omega))) ?_
                      refine wl_lmul hX dX5_share_135 ?_
                      refine wl_lload hX 3 rfl dX5_share_136 ?_
                      refine wl_ldiv hX dX5_share_138 h5 ?_
                      refine wl_last hX i kc_31 rfl (by omega) dX5_share_139 ?_
                      refine wl_mem (J' := (shJ J (rwF (rwF (J 31) (msF I P) R) (mshP (msF I P) pot (sJ (msF I P) R)) (i + 1)) (rwF (J 32) (mshQ (msF I P) pot (sJ (msF I P) R)) (i + 1)))) rfl (shJ_p J (rwF (rwF (J 31) (msF I P) R) (mshP (msF I P) pot (sJ (msF I P) R)) i) (rwF (J 32) (mshQ (msF I P) pot (sJ (msF I P) R)) (i + 1)) i (mshP (msF I P) pot (sJ (msF I P) R) i)) ?_
                      refine wl_lload hX 4 rfl dX5_share_140 ?_
                      refine wl_aload_n hX 0 rfl dX5_share_142 ?_
                      refine gf_X5_22 hX tb_522 dX5_share_143 ?_
                      refine wl_iload hX 5 rfl dX5_share_146 ?_
                      refine wl_lald hX i kc_31 rfl (by omega) dX5_share_148 ?_
                      refine wl_eql (y := mshP (msF I P) pot (sJ (msF I P) R) i) (rwF_lo (rwF (J 31) (msF I P) R) (mshP (msF I P) pot (sJ (msF I P) R)) (i + 1) i (by omega)) ?_
                      refine wl_lsub hX dX5_share_149 ?_
                      refine wl_lstore hX (lv' := [(6, .long ((lackF (msF I P) (sJ (msF I P) R) pot i) - (mshP (msF I P) pot (sJ (msF I P) R) i))), (0, .ref (ad 5)), (1, .int (nI p)), (2, .long pot), (4, .long (sJ (msF I P) R)), (8, .int (nI i))]) rfl (by decide) dX5_share_150 ?_
                      refine wl_iinc hX (v := nI (i + 1)) (lv' := [(8, .int (nI (i + 1))), (6, .long ((lackF (msF I P) (sJ (msF I P) R) pot i) - (mshP (msF I P) pot (sJ (msF I P) R) i))), (0, .ref (ad 5)), (1, .int (nI p)), (2, .long pot), (4, .long (sJ (msF I P) R))]) 5 rfl (nI_1 _) rfl (by decide) dX5_share_152 ?_
                      refine wl_goto hX (tgt := 93) dX5_share_155 (by decide) ?_
                      refine wl_sub hX [2, 3, 4, 5, 1, 0] rfl ?_
                      exact ihA (i + 1) (by omega) (by omega)
                exact A (R + 1) 0 (by omega) (by omega)
              · have e1 : mshR J (msF I P) R p pot = 0 := by unfold mshR; rw [if_pos h5]
                have e3 : mshJ J (msF I P) R pot = shJ J (rwF (J 31) (msF I P) R) (J 32) := by unfold mshJ; rw [hx_ifp h5]
                rw [e1, e3] at hT
                refine wl_lconst hX (v := 0) dX5_share_85 (by decide) ?_
                exact wl_lreturn hT dX5_share_86 ⟨rfl, rfl, rfl⟩
            · have hi1 : i < R := Nat.lt_of_not_le (fun z => hic ((nI_leI (by omega) (by omega)).mpr z))
              refine wl_aload_n hX 0 rfl dX5_share_45 ?_
              refine gf_X5_22 hX tb_522 dX5_share_46 ?_
              refine wl_iload hX 4 rfl dX5_share_49 ?_
              refine wl_aload_n hX 0 rfl dX5_share_51 ?_
              refine wl_iload hX 4 rfl dX5_share_52 ?_
              refine wl_iconst hX (v := 0) dX5_share_54 (by decide) ?_
              refine wl_iconst hX (v := 0) dX5_share_55 (by decide) ?_
              refine wl_cVl hX (c_X5_matchedOf hi I (shJ J (rwF (J 31) (msF I P) i) (J 32)) i 0 0 (by omega) P hP hP12) mv_X5_matchedOf tb_727 (by decide) rfl rfl rfl rfl (by omega) (Nat.le_of_ble_eq_true rfl) dX5_share_56 ?_
              refine wl_last hX i kc_31 rfl (by omega) dX5_share_59 ?_
              refine wl_mem (J' := (shJ J (rwF (J 31) (msF I P) (i + 1)) (J 32))) rfl (shJ_p J (rwF (J 31) (msF I P) i) (J 32) i (msF I P i)) ?_
              refine wl_lload hX 3 rfl dX5_share_60 ?_
              refine wl_aload_n hX 0 rfl dX5_share_62 ?_
              refine gf_X5_22 hX tb_522 dX5_share_63 ?_
              refine wl_iload hX 4 rfl dX5_share_66 ?_
              refine wl_lald hX i kc_31 rfl (by omega) dX5_share_68 ?_
              refine wl_eql (y := msF I P i) (rwF_lo (J 31) (msF I P) (i + 1) i (by omega)) ?_
              refine wl_ladd hX dX5_share_69 ?_
              refine wl_lstore hX (lv' := [(4, .long ((sJ (msF I P) i) + (msF I P i))), (0, .ref (ad 5)), (1, .int (nI p)), (2, .long pot), (6, .int (nI i))]) rfl (by decide) dX5_share_70 ?_
              refine wl_iinc hX (v := nI (i + 1)) (lv' := [(6, .int (nI (i + 1))), (4, .long ((sJ (msF I P) i) + (msF I P i))), (0, .ref (ad 5)), (1, .int (nI p)), (2, .long pot)]) 4 rfl (nI_1 _) rfl (by decide) dX5_share_72 ?_
              refine wl_goto hX (tgt := 36) dX5_share_75 (by decide) ?_
              refine wl_sub hX [2, 3, 4, 1, 0] rfl ?_
              exact ihL (i + 1) (by omega) (by omega)
        exact L (R + 1) 0 (by omega) (by omega)
      · rw [hx_ifn (fun w => w.2 (Or.inr (by rw [Int64.lt_iff_toInt_lt]; rw [Int64.le_iff_toInt_le] at h4; omega)))] at hT
        refine wl_ldc2 hX tb_739 dX5_share_26 ?_
        exact wl_lreturn hT dX5_share_29 (hx_rl (by unfold shareR; rw [if_neg kb, if_pos (Or.inr (by rw [Int64.lt_iff_toInt_lt]; rw [Int64.le_iff_toInt_le] at h4; omega))]))
  · rw [hx_ifn (fun w => w.1 h1)] at hT
    refine wl_ldc2 hX tb_726 dX5_share_8 ?_
    exact wl_lreturn hT dX5_share_11 (hx_rl (by unfold shareR; rw [if_pos h1]))

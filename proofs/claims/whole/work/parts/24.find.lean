/-! the reference: find -/
set_option maxHeartbeats 400000 in
theorem c_X5_find {l : Launch} {D : va_G} {ad : Nat → Nat} {cy : Nat → ClassId} (hi : hx_inj ad) (I : MI) (J : MJ) (P : Nat) (hP : I 5 0 = nI P) (hP12 : P ≤ 12) (p : Nat) (hp : p < P) (Q : Nat) (hQ : I 5 1 = nI Q) (hQ6 : Q ≤ 6) : Ct l D ad cy yX5_find cX5_find 11 none 2 [.ref (ad 5), .int (nI p)] I J (hx_is none (fmM I P Q p) J) := by
  refine ct_start hi (by decide +kernel) (Nat.le_of_ble_eq_true rfl) (fun X hX hT => ?_)
  show X 0 [(0, .ref (ad 5)), (1, .int (nI p))] [] I J
  refine wl_iconst hX (v := 1) dX5_find_0 (by decide) ?_
  refine wl_istore_n hX (lv' := [(2, .int 1), (0, .ref (ad 5)), (1, .int (nI p))]) rfl (by decide) dX5_find_1 ?_
  refine wl_iconst hX (v := 0) dX5_find_2 (by decide) ?_
  refine wl_istore_n hX (lv' := [(3, .int 0), (2, .int 1), (0, .ref (ad 5)), (1, .int (nI p))]) rfl (by decide) dX5_find_3 ?_
  refine wl_sub hX [2, 3, 1, 0] rfl ?_
  have L : ∀ (k q : Nat), q ≤ Q → Q - q < k → X 4 [(0, .ref (ad 5)), (1, .int (nI p)), (2, .int (nI (3 ^ q))), (3, .int (nI q))] [] (f1R I (fmO I P p) q) J := by
    intro k
    induction k with
    | zero => exact fun _  _ h => absurd h (Nat.not_lt_zero _)
    | succ k ihL =>
      intro q  hqn hqk
      refine wl_iload_n hX 3 rfl dX5_find_4 ?_
      refine wl_aload_n hX 0 rfl dX5_find_5 ?_
      refine gf_X5_1 hX tb_501 dX5_find_6 ?_
      refine wl_eqi (y := nI Q) (by rw [f1R_ne (by decide) (by decide)]; exact hQ) ?_
      refine wl_icmp_ge hX (tgt := 84) dX5_find_9 (by decide) (fun hqc => ?_) (fun hqc => ?_)
      · have hqe : q = Q := by
          have h9 := (nI_leI (by omega) (by omega)).mp hqc
          omega
        rw [hqe]
        obtain ⟨B, hB⟩ : ∃ B : MI, B = f1R I (fmO I P p) Q := ⟨_, rfl⟩
        obtain ⟨N, hN⟩ : ∃ N : Nat, N = 3 ^ Q := ⟨_, rfl⟩
        have hN9 : N ≤ 729 := by rw [hN]; exact pow3_le hQ6
        have b1 : B 5 1 = nI Q := by rw [hB, f1R_ne (by decide) (by decide)]; exact hQ
        rw [← hB, ← hN]
        refine wl_aload_n hX 0 rfl dX5_find_84 ?_
        refine wl_iconst hX (v := 0) dX5_find_85 (by decide) ?_
        refine pf_X5_20 hX (by decide) tb_520 dX5_find_86 ?_
        refine wl_mem (I' := (msM B (I 29, I 28, I 5 18, I 5 19, 0))) (by rw [hB]; exact fmB_start I P Q p) rfl ?_
        refine wl_iconst hX (v := 0) dX5_find_89 (by decide) ?_
        refine wl_istore_n hX (lv' := [(3, .int 0), (0, .ref (ad 5)), (1, .int (nI p)), (2, .int (nI (N)))]) rfl (by decide) dX5_find_90 ?_
        refine wl_sub hX [1, 2, 3, 0] rfl ?_
        have M : ∀ (k w : Nat), w ≤ N → N - w < k → X 91 [(0, .ref (ad 5)), (1, .int (nI p)), (2, .int (nI (N))), (3, .int (nI w))] [] (msM B (foF (wayF B Q p) w (I 29, I 28, I 5 18, I 5 19, 0))) J := by
          intro k
          induction k with
          | zero => exact fun _  _ h => absurd h (Nat.not_lt_zero _)
          | succ k ihM =>
            intro w  hwn hwk
            refine wl_iload_n hX 3 rfl dX5_find_91 ?_
            refine wl_iload_n hX 2 rfl dX5_find_92 ?_
            refine wl_icmp_ge hX (tgt := 338) dX5_find_93 (by decide) (fun hwc => ?_) (fun hwc => ?_)
            · have hwe : w = N := by
                have h9 := (nI_leI (by omega) (by omega)).mp hwc
                omega
              exact wl_return hT dX5_find_338 ⟨rfl, by rw [hwe, hN, hB]; rfl, rfl⟩
            · have hw1 : w < N := Nat.lt_of_not_le (fun z => hwc ((nI_leI (by omega) (by omega)).mpr z))
              have e2 : (foF (wayF B Q p) (w + 1) (I 29, I 28, I 5 18, I 5 19, 0)) = wayF B Q p w (foF (wayF B Q p) w (I 29, I 28, I 5 18, I 5 19, 0)) := rfl
              obtain ⟨s, hs⟩ : ∃ s : MS, s = (foF (wayF B Q p) w (I 29, I 28, I 5 18, I 5 19, 0)) := ⟨_, rfl⟩
              rw [← hs] at e2 ⊢
              refine wl_iload_n hX 3 rfl dX5_find_96 ?_
              refine wl_eqi (y := nI (w / 3 ^ 0)) (by rw [Nat.pow_zero, Nat.div_one]) ?_
              refine wl_istore hX (lv' := [(4, .int (nI (w / 3 ^ 0))), (0, .ref (ad 5)), (1, .int (nI p)), (2, .int (nI (N))), (3, .int (nI w))]) rfl (by decide) dX5_find_97 ?_
              refine wl_iconst hX (v := 0) dX5_find_99 (by decide) ?_
              refine wl_istore hX (lv' := [(5, .int 0), (4, .int (nI (w / 3 ^ 0))), (0, .ref (ad 5)), (1, .int (nI p)), (2, .int (nI (N))), (3, .int (nI w))]) rfl (by decide) dX5_find_100 ?_
              refine wl_iconst hX (v := 0) dX5_find_102 (by decide) ?_
              refine wl_istore hX (lv' := [(6, .int 0), (5, .int 0), (4, .int (nI (w / 3 ^ 0))), (0, .ref (ad 5)), (1, .int (nI p)), (2, .int (nI (N))), (3, .int (nI w))]) rfl (by decide) dX5_find_103 ?_
              refine wl_iconst hX (v := 1) dX5_find_105 (by decide) ?_
              refine wl_istore hX (lv' := [(7, .int 1), (6, .int 0), (5, .int 0), (4, .int (nI (w / 3 ^ 0))), (0, .ref (ad 5)), (1, .int (nI p)), (2, .int (nI (N))), (3, .int (nI w))]) rfl (by decide) dX5_find_106 ?_
              refine wl_iconst hX (v := 0) dX5_find_108 (by decide) ?_
              refine wl_istore hX (lv' := [(8, .int 0), (7, .int 1), (6, .int 0), (5, .int 0), (4, .int (nI (w / 3 ^ 0))), (0, .ref (ad 5)), (1, .int (nI p)), (2, .int (nI (N))), (3, .int (nI w))]) rfl (by decide) dX5_find_109 ?_
              refine wl_sub hX [5, 6, 7, 8, 4, 3, 2, 1, 0] rfl ?_
              have K : ∀ (k q : Nat), q ≤ Q → Q - q < k → X 111 [(0, .ref (ad 5)), (1, .int (nI p)), (2, .int (nI (N))), (3, .int (nI w)), (4, .int (nI (w / 3 ^ q))), (5, .int (wyA B p w q)), (6, .int (wyC B w q)), (7, .int (wyG B w q)), (8, .int (nI q))] [] (msM B (wyT B w s.1 q, s.2)) J := by
                intro k
                induction k with
                | zero => exact fun _  _ h => absurd h (Nat.not_lt_zero _)
                | succ k ihK =>
                  intro q  hqn hqk
                  refine wl_iload hX 8 rfl dX5_find_111 ?_
                  refine wl_aload_n hX 0 rfl dX5_find_113 ?_
                  refine gf_X5_1 hX tb_501 dX5_find_114 ?_
                  refine wl_eqi (y := nI Q) b1 ?_
                  refine wl_icmp_ge hX (tgt := 256) dX5_find_117 (by decide) (fun hqc => ?_) (fun hqc => ?_)
                  · have hqe : q = Q := by
                      have h9 := (nI_leI (by omega) (by omega)).mp hqc
                      omega
                    rw [hqe]
                    refine wl_iload hX 7 rfl dX5_find_256 ?_
                    refine wl_if_eq hX (tgt := 332) dX5_find_258 (by decide) (fun h1 => ?_) (fun h1 => ?_)
                    · have e3 : (foF (wayF B Q p) (w + 1) (I 29, I 28, I 5 18, I 5 19, 0)) = (wyT B w s.1 Q, s.2) := e2.trans (if_pos (Or.inl h1))
                      rw [← e3]
                      refine wl_iinc hX (v := nI (w + 1)) (lv' := [(3, .int (nI (w + 1))), (0, .ref (ad 5)), (1, .int (nI p)), (2, .int (nI (N))), (4, .int (nI (w / 3 ^ Q))), (5, .int (wyA B p w Q)), (6, .int (wyC B w Q)), (7, .int (wyG B w Q)), (8, .int (nI Q))]) 3 rfl (nI_1 _) rfl (by decide) dX5_find_332 ?_
                      refine wl_goto hX (tgt := 91) dX5_find_335 (by decide) ?_
                      refine wl_sub hX [1, 2, 3, 0] rfl ?_
                      exact ihM (w + 1) (by omega) (by omega)
                    · refine wl_iload hX 6 rfl dX5_find_261 ?_
                      refine wl_aload_n hX 0 rfl dX5_find_263 ?_
                      refine gf_X5_4 hX tb_504 dX5_find_264 ?_
                      refine wl_iload_n hX 1 rfl dX5_find_267 ?_
                      refine wl_iald hX p kc_20 rfl (by omega) dX5_find_268 ?_
                      refine wl_eqi (y := B 20 p) (by rw [msM_ne (by decide) (by decide) (by decide)]) ?_
                      refine wl_icmp_gt hX (tgt := 332) dX5_find_269 (by decide) (fun h2 => ?_) (fun h2 => ?_)
                      · have e3 : (foF (wayF B Q p) (w + 1) (I 29, I 28, I 5 18, I 5 19, 0)) = (wyT B w s.1 Q, s.2) := e2.trans (if_pos (Or.inr (Or.inl h2)))
                        rw [← e3]
                        refine wl_iinc hX (v := nI (w + 1)) (lv' := [(3, .int (nI (w + 1))), (0, .ref (ad 5)), (1, .int (nI p)), (2, .int (nI (N))), (4, .int (nI (w / 3 ^ Q))), (5, .int (wyA B p w Q)), (6, .int (wyC B w Q)), (7, .int (wyG B w Q)), (8, .int (nI Q))]) 3 rfl (nI_1 _) rfl (by decide) dX5_find_332 ?_
                        refine wl_goto hX (tgt := 91) dX5_find_335 (by decide) ?_
                        refine wl_sub hX [1, 2, 3, 0] rfl ?_
                        exact ihM (w + 1) (by omega) (by omega)
                      · refine wl_aload_n hX 0 rfl dX5_find_272 ?_
                        refine wl_iload hX 5 rfl dX5_find_273 ?_
                        refine wl_iload hX 6 rfl dX5_find_275 ?_
                        refine wl_cVi hX (c_X5_isBetter hi B J (wyT B w s.1 Q, s.2) (wyA B p w Q) (wyC B w Q) Q b1 hQ6) mv_X5_isBetter tb_673 (by decide) rfl rfl rfl rfl (by omega) (Nat.le_of_ble_eq_true rfl) dX5_find_277 ?_
                        refine wl_if_eq hX (tgt := 332) dX5_find_280 (by decide) (fun h3 => ?_) (fun h3 => ?_)
                        · have e3 : (foF (wayF B Q p) (w + 1) (I 29, I 28, I 5 18, I 5 19, 0)) = (wyT B w s.1 Q, s.2) := e2.trans (if_pos (Or.inr (Or.inr h3)))
                          rw [← e3]
                          refine wl_iinc hX (v := nI (w + 1)) (lv' := [(3, .int (nI (w + 1))), (0, .ref (ad 5)), (1, .int (nI p)), (2, .int (nI (N))), (4, .int (nI (w / 3 ^ Q))), (5, .int (wyA B p w Q)), (6, .int (wyC B w Q)), (7, .int (wyG B w Q)), (8, .int (nI Q))]) 3 rfl (nI_1 _) rfl (by decide) dX5_find_332 ?_
                          refine wl_goto hX (tgt := 91) dX5_find_335 (by decide) ?_
                          refine wl_sub hX [1, 2, 3, 0] rfl ?_
                          exact ihM (w + 1) (by omega) (by omega)
                        · have e3 : (foF (wayF B Q p) (w + 1) (I 29, I 28, I 5 18, I 5 19, 0)) = (wyT B w s.1 Q, cpF (wyT B w s.1 Q) s.2.1 Q, wyA B p w Q, wyC B w Q, 1) := e2.trans (if_neg (fun y => y.elim h1 (fun x => x.elim h2 h3)))
                          refine wl_aload_n hX 0 rfl dX5_find_283 ?_
                          refine wl_iconst hX (v := 1) dX5_find_284 (by decide) ?_
                          refine pf_X5_20 hX (by decide) tb_520 dX5_find_285 ?_
                          refine wl_mem (I' := (msM B (wyT B w s.1 Q, s.2.1, s.2.2.1, s.2.2.2.1, 1))) (msM_h B (wyT B w s.1 Q, s.2) 1) rfl ?_
                          refine wl_aload_n hX 0 rfl dX5_find_288 ?_
                          refine wl_iload hX 5 rfl dX5_find_289 ?_
                          refine pf_X5_18 hX tb_518 dX5_find_291 ?_
                          refine wl_mem (I' := (msM B (wyT B w s.1 Q, s.2.1, wyA B p w Q, s.2.2.2.1, 1))) (msM_g B (wyT B w s.1 Q, s.2.1, s.2.2.1, s.2.2.2.1, 1) (wyA B p w Q)) rfl ?_
                          refine wl_aload_n hX 0 rfl dX5_find_294 ?_
                          refine wl_iload hX 6 rfl dX5_find_295 ?_
                          refine pf_X5_19 hX tb_519 dX5_find_297 ?_
                          refine wl_mem (I' := (msM B (wyT B w s.1 Q, s.2.1, wyA B p w Q, wyC B w Q, 1))) (msM_c B (wyT B w s.1 Q, s.2.1, wyA B p w Q, s.2.2.2.1, 1) (wyC B w Q)) rfl ?_
                          refine wl_iconst hX (v := 0) dX5_find_300 (by decide) ?_
                          refine wl_istore hX (lv' := [(8, .int 0), (0, .ref (ad 5)), (1, .int (nI p)), (2, .int (nI (N))), (3, .int (nI w)), (4, .int (nI (w / 3 ^ Q))), (5, .int (wyA B p w Q)), (6, .int (wyC B w Q)), (7, .int (wyG B w Q))]) rfl (by decide) dX5_find_301 ?_
                          refine wl_sub hX [1, 2, 3, 4, 5, 6, 7, 8, 0] rfl ?_
                          have C : ∀ (k r : Nat), r ≤ Q → Q - r < k → X 303 [(0, .ref (ad 5)), (1, .int (nI p)), (2, .int (nI (N))), (3, .int (nI w)), (4, .int (nI (w / 3 ^ Q))), (5, .int (wyA B p w Q)), (6, .int (wyC B w Q)), (7, .int (wyG B w Q)), (8, .int (nI r))] [] (msM B (wyT B w s.1 Q, cpF (wyT B w s.1 Q) s.2.1 r, wyA B p w Q, wyC B w Q, 1)) J := by
                            intro k
                            induction k with
                            | zero => exact fun _  _ h => absurd h (Nat.not_lt_zero _)
                            | succ k ihC =>
                              intro r  hrn hrk
                              refine wl_iload hX 8 rfl dX5_find_303 ?_
                              refine wl_aload_n hX 0 rfl dX5_find_305 ?_
                              refine gf_X5_1 hX tb_501 dX5_find_306 ?_
                              refine wl_eqi (y := nI Q) b1 ?_
                              refine wl_icmp_ge hX (tgt := 332) dX5_find_309 (by decide) (fun hrc => ?_) (fun hrc => ?_)
                              · have hre : r = Q := by
                                  have h9 := (nI_leI (by omega) (by omega)).mp hrc
                                  omega
                                rw [hre]
                                rw [← e3]
                                refine wl_iinc hX (v := nI (w + 1)) (lv' := [(3, .int (nI (w + 1))), (0, .ref (ad 5)), (1, .int (nI p)), (2, .int (nI (N))), (4, .int (nI (w / 3 ^ Q))), (5, .int (wyA B p w Q)), (6, .int (wyC B w Q)), (7, .int (wyG B w Q)), (8, .int (nI Q))]) 3 rfl (nI_1 _) rfl (by decide) dX5_find_332 ?_
                                refine wl_goto hX (tgt := 91) dX5_find_335 (by decide) ?_
                                refine wl_sub hX [1, 2, 3, 0] rfl ?_
                                exact ihM (w + 1) (by omega) (by omega)
                              · have hr1 : r < Q := Nat.lt_of_not_le (fun z => hrc ((nI_leI (by omega) (by omega)).mpr z))
                                refine wl_aload_n hX 0 rfl dX5_find_312 ?_
                                refine gf_X5_16 hX tb_516 dX5_find_313 ?_
                                refine wl_iload hX 8 rfl dX5_find_316 ?_
                                refine wl_aload_n hX 0 rfl dX5_find_318 ?_
                                refine gf_X5_17 hX tb_517 dX5_find_319 ?_
                                refine wl_iload hX 8 rfl dX5_find_322 ?_
                                refine wl_iald hX r kc_29 rfl (by omega) dX5_find_324 ?_
                                refine wl_eqi (y := wyT B w s.1 Q r) rfl ?_
                                refine wl_iast hX r kc_28 rfl (by omega) dX5_find_325 ?_
                                refine wl_mem (I' := (msM B (wyT B w s.1 Q, cpF (wyT B w s.1 Q) s.2.1 (r + 1), wyA B p w Q, wyC B w Q, 1))) (msM_b B (wyT B w s.1 Q, cpF (wyT B w s.1 Q) s.2.1 r, wyA B p w Q, wyC B w Q, 1) r (wyT B w s.1 Q r)) rfl ?_
                                refine wl_iinc hX (v := nI (r + 1)) (lv' := [(8, .int (nI (r + 1))), (0, .ref (ad 5)), (1, .int (nI p)), (2, .int (nI (N))), (3, .int (nI w)), (4, .int (nI (w / 3 ^ Q))), (5, .int (wyA B p w Q)), (6, .int (wyC B w Q)), (7, .int (wyG B w Q))]) 8 rfl (nI_1 _) rfl (by decide) dX5_find_326 ?_
                                refine wl_goto hX (tgt := 303) dX5_find_329 (by decide) ?_
                                refine wl_sub hX [1, 2, 3, 4, 5, 6, 7, 8, 0] rfl ?_
                                exact ihC (r + 1) (by omega) (by omega)
                          exact C (Q + 1) 0 (by omega) (by omega)
                  · have hq1 : q < Q := Nat.lt_of_not_le (fun z => hqc ((nI_leI (by omega) (by omega)).mpr z))
                    have hdg := dgW_lt w q
                    have hw3 : w / 3 ^ q < 2 ^ 31 := Nat.lt_of_le_of_lt (Nat.div_le_self _ _) (by omega)
                    refine wl_iload hX 4 rfl dX5_find_120 ?_
                    refine wl_iconst hX (v := 3) dX5_find_122 (by decide) ?_
                    refine wl_irem hX dX5_find_123 (by decide) ?_
                    refine wl_eqi (y := nI (dgW w q)) (hx_rem3 hw3) ?_
                    refine wl_istore hX (lv' := [(9, .int (nI (dgW w q))), (0, .ref (ad 5)), (1, .int (nI p)), (2, .int (nI (N))), (3, .int (nI w)), (4, .int (nI (w / 3 ^ q))), (5, .int (wyA B p w q)), (6, .int (wyC B w q)), (7, .int (wyG B w q)), (8, .int (nI q))]) rfl (by decide) dX5_find_124 ?_
                    refine wl_iload hX 5 rfl dX5_find_126 ?_
                    refine wl_iconst hX (v := 3) dX5_find_128 (by decide) ?_
                    refine wl_idiv hX dX5_find_129 (by decide) ?_
                    refine wl_eqi (y := nI (w / 3 ^ (q + 1))) (hx_div3 (by omega)) ?_
                    refine wl_istore hX (lv' := [(4, .int (nI (w / 3 ^ (q + 1)))), (9, .int (nI (dgW w q))), (0, .ref (ad 5)), (1, .int (nI p)), (2, .int (nI (N))), (3, .int (nI w)), (5, .int (wyA B p w q)), (6, .int (wyC B w q)), (7, .int (wyG B w q)), (8, .int (nI q))]) rfl (by decide) dX5_find_130 ?_
                    refine wl_aload_n hX 2 rfl dX5_find_132 ?_
                    refine gf_X5_14 hX tb_514 dX5_find_133 ?_
                    refine wl_iconst hX (v := 3) dX5_find_136 (by decide) ?_
                    refine wl_iload hX 9 rfl dX5_find_137 ?_
                    refine wl_imul hX dX5_find_139 ?_
                    refine wl_iload hX 1 rfl dX5_find_140 ?_
                    refine wl_iadd hX dX5_find_142 ?_
                    refine wl_iald hX (3 * q + (dgW w q)) kc_26 (hx_ix3 q (dgW w q)) (by omega) dX5_find_143 ?_
                    refine wl_eqi (y := B 26 (3 * q + dgW w q)) (by rw [msM_ne (by decide) (by decide) (by decide)]) ?_
                    refine wl_istore hX (lv' := [(10, .int (B 26 (3 * q + dgW w q))), (4, .int (nI (w / 3 ^ (q + 1)))), (9, .int (nI (dgW w q))), (0, .ref (ad 5)), (1, .int (nI p)), (2, .int (nI (N))), (3, .int (nI w)), (5, .int (wyA B p w q)), (6, .int (wyC B w q)), (7, .int (wyG B w q)), (8, .int (nI q))]) rfl (by decide) dX5_find_144 ?_
                    have K171 : X 171 [(10, .int (B 26 (3 * q + dgW w q))), (4, .int (nI (w / 3 ^ (q + 1)))), (9, .int (nI (dgW w q))), (0, .ref (ad 5)), (1, .int (nI p)), (2, .int (nI (N))), (3, .int (nI w)), (5, .int (wyA B p w q)), (6, .int (wyC B w q)), (7, .int (wyG B w q)), (8, .int (nI q))] [.int (wyG B w (q + 1))] (msM B (wyT B w s.1 q, s.2)) J := by
                      refine wl_istore hX (lv' := [(7, .int (wyG B w (q + 1))), (10, .int (B 26 (3 * q + dgW w q))), (4, .int (nI (w / 3 ^ (q + 1)))), (9, .int (nI (dgW w q))), (0, .ref (ad 5)), (1, .int (nI p)), (2, .int (nI (N))), (3, .int (nI w)), (5, .int (wyA B p w q)), (6, .int (wyC B w q)), (8, .int (nI q))]) rfl (by decide) dX5_find_171 ?_
                      refine wl_aload_n hX 4 rfl dX5_find_173 ?_
                      refine gf_X5_17 hX tb_517 dX5_find_174 ?_
                      refine wl_iload hX 10 rfl dX5_find_177 ?_
                      refine wl_iload hX 1 rfl dX5_find_179 ?_
                      refine wl_iast hX q kc_29 rfl (by omega) dX5_find_181 ?_
                      refine wl_mem (I' := (msM B (wyT B w s.1 (q + 1), s.2))) (msM_t B (wyT B w s.1 q, s.2) q (B 26 (3 * q + dgW w q))) rfl ?_
                      refine wl_iload hX 9 rfl dX5_find_182 ?_
                      have K198 : X 198 [(7, .int (wyG B w (q + 1))), (10, .int (B 26 (3 * q + dgW w q))), (4, .int (nI (w / 3 ^ (q + 1)))), (9, .int (nI (dgW w q))), (0, .ref (ad 5)), (1, .int (nI p)), (2, .int (nI (N))), (3, .int (nI w)), (5, .int (wyA B p w q)), (6, .int (wyC B w q)), (8, .int (nI q))] [.int (if wyG B w (q + 1) = 0 then (0 : Int32) else B 26 (3 * q + dgW w q) * B 26 (3 * q + dgW w q)), .int (wyC B w q)] (msM B (wyT B w s.1 (q + 1), s.2)) J := by
                        refine wl_iadd hX dX5_find_198 ?_
                        refine wl_eqi (y := wyC B w (q + 1)) rfl ?_
                        refine wl_istore hX (lv' := [(6, .int (wyC B w (q + 1))), (7, .int (wyG B w (q + 1))), (10, .int (B 26 (3 * q + dgW w q))), (4, .int (nI (w / 3 ^ (q + 1)))), (9, .int (nI (dgW w q))), (0, .ref (ad 5)), (1, .int (nI p)), (2, .int (nI (N))), (3, .int (nI w)), (5, .int (wyA B p w q)), (8, .int (nI q))]) rfl (by decide) dX5_find_199 ?_
                        refine wl_iload hX 9 rfl dX5_find_201 ?_
                        have K247 : X 247 [(6, .int (wyC B w (q + 1))), (7, .int (wyG B w (q + 1))), (10, .int (B 26 (3 * q + dgW w q))), (4, .int (nI (w / 3 ^ (q + 1)))), (9, .int (nI (dgW w q))), (0, .ref (ad 5)), (1, .int (nI p)), (2, .int (nI (N))), (3, .int (nI w)), (5, .int (wyA B p w q)), (8, .int (nI q))] [.int (if dgW w q = 0 then 2 * B 23 (6 * p + q) else if dgW w q = 1 then B 23 (6 * p + q) else (0 : Int32)), .int (wyA B p w q)] (msM B (wyT B w s.1 (q + 1), s.2)) J := by
                          refine wl_iadd hX dX5_find_247 ?_
                          refine wl_eqi (y := wyA B p w (q + 1)) rfl ?_
                          refine wl_istore hX (lv' := [(5, .int (wyA B p w (q + 1))), (6, .int (wyC B w (q + 1))), (7, .int (wyG B w (q + 1))), (10, .int (B 26 (3 * q + dgW w q))), (4, .int (nI (w / 3 ^ (q + 1)))), (9, .int (nI (dgW w q))), (0, .ref (ad 5)), (1, .int (nI p)), (2, .int (nI (N))), (3, .int (nI w)), (8, .int (nI q))]) rfl (by decide) dX5_find_248 ?_
                          refine wl_iinc hX (v := nI (q + 1)) (lv' := [(8, .int (nI (q + 1))), (5, .int (wyA B p w (q + 1))), (6, .int (wyC B w (q + 1))), (7, .int (wyG B w (q + 1))), (10, .int (B 26 (3 * q + dgW w q))), (4, .int (nI (w / 3 ^ (q + 1)))), (9, .int (nI (dgW w q))), (0, .ref (ad 5)), (1, .int (nI p)), (2, .int (nI (N))), (3, .int (nI w))]) 10 rfl (nI_1 _) rfl (by decide) dX5_find_250 ?_
                          refine wl_goto hX (tgt := 111) dX5_find_253 (by decide) ?_
                          refine wl_sub hX [7, 8, 9, 10, 5, 1, 2, 3, 0] rfl ?_
                          exact ihK (q + 1) (by omega) (by omega)
                        refine wl_iload hX 4 rfl dX5_find_203 ?_
                        refine wl_if_ne hX (tgt := 225) dX5_find_205 (by decide) (fun h3 => ?_) (fun h3 => ?_)
                        · have k3 : ¬ dgW w q = 0 := fun y => h3 ((nI_z (by omega)).mpr y)
                          refine wl_iload hX 4 rfl dX5_find_225 ?_
                          refine wl_iconst hX (v := 1) dX5_find_227 (by decide) ?_
                          refine wl_icmp_ne hX (tgt := 246) dX5_find_228 (by decide) (fun h4 => ?_) (fun h4 => ?_)
                          · refine wl_iconst hX (v := 0) dX5_find_246 (by decide) ?_
                            refine wl_eqi (y := (if dgW w q = 0 then 2 * B 23 (6 * p + q) else if dgW w q = 1 then B 23 (6 * p + q) else (0 : Int32))) (by rw [if_neg k3, if_neg (fun y => h4 ((nI_o (by omega)).mpr y))]) ?_
                            exact K247
                          · refine wl_aload_n hX 5 rfl dX5_find_231 ?_
                            refine gf_X5_7 hX tb_507 dX5_find_232 ?_
                            refine wl_bipush hX (v := 6) dX5_find_235 (by decide) ?_
                            refine wl_iload_n hX 6 rfl dX5_find_237 ?_
                            refine wl_imul hX dX5_find_238 ?_
                            refine wl_iload hX 10 rfl dX5_find_239 ?_
                            refine wl_iadd hX dX5_find_241 ?_
                            refine wl_iald hX (6 * p + q) kc_23 (hx_ix6 p q) (by omega) dX5_find_242 ?_
                            refine wl_eqi (y := B 23 (6 * p + q)) (by rw [msM_ne (by decide) (by decide) (by decide)]) ?_
                            refine wl_goto hX (tgt := 247) dX5_find_243 (by decide) ?_
                            refine wl_eqi (y := (if dgW w q = 0 then 2 * B 23 (6 * p + q) else if dgW w q = 1 then B 23 (6 * p + q) else (0 : Int32))) (by rw [if_neg k3, if_pos ((nI_o (by omega)).mp h4)]) ?_
                            exact K247
                        · refine wl_iconst hX (v := 2) dX5_find_208 (by decide) ?_
                          refine wl_aload_n hX 5 rfl dX5_find_209 ?_
                          refine gf_X5_7 hX tb_507 dX5_find_210 ?_
                          refine wl_bipush hX (v := 6) dX5_find_213 (by decide) ?_
                          refine wl_iload_n hX 6 rfl dX5_find_215 ?_
                          refine wl_imul hX dX5_find_216 ?_
                          refine wl_iload hX 10 rfl dX5_find_217 ?_
                          refine wl_iadd hX dX5_find_219 ?_
                          refine wl_iald hX (6 * p + q) kc_23 (hx_ix6 p q) (by omega) dX5_find_220 ?_
                          refine wl_eqi (y := B 23 (6 * p + q)) (by rw [msM_ne (by decide) (by decide) (by decide)]) ?_
                          refine wl_imul hX dX5_find_221 ?_
                          refine wl_goto hX (tgt := 247) dX5_find_222 (by decide) ?_
                          refine wl_eqi (y := (if dgW w q = 0 then 2 * B 23 (6 * p + q) else if dgW w q = 1 then B 23 (6 * p + q) else (0 : Int32))) (by rw [if_pos ((nI_z (by omega)).mp h3)]) ?_
                          exact K247
                      refine wl_iload hX 0 rfl dX5_find_184 ?_
                      refine wl_if_eq hX (tgt := 197) dX5_find_186 (by decide) (fun h2 => ?_) (fun h2 => ?_)
                      · refine wl_iconst hX (v := 0) dX5_find_197 (by decide) ?_
                        refine wl_eqi (y := (if wyG B w (q + 1) = 0 then (0 : Int32) else B 26 (3 * q + dgW w q) * B 26 (3 * q + dgW w q))) (by rw [if_pos h2]) ?_
                        exact K198
                      · refine wl_iload hX 1 rfl dX5_find_189 ?_
                        refine wl_iload hX 1 rfl dX5_find_191 ?_
                        refine wl_imul hX dX5_find_193 ?_
                        refine wl_goto hX (tgt := 198) dX5_find_194 (by decide) ?_
                        refine wl_eqi (y := (if wyG B w (q + 1) = 0 then (0 : Int32) else B 26 (3 * q + dgW w q) * B 26 (3 * q + dgW w q))) (by rw [if_neg h2]) ?_
                        exact K198
                    have e5 : wyG B w (q + 1) = if wyG B w q = 0 ∨ B 27 (3 * q + dgW w q) = 0 then (0 : Int32) else 1 := rfl
                    refine wl_iload hX 9 rfl dX5_find_146 ?_
                    refine wl_if_eq hX (tgt := 170) dX5_find_148 (by decide) (fun h1 => ?_) (fun h1 => ?_)
                    · refine wl_iconst hX (v := 0) dX5_find_170 (by decide) ?_
                      refine wl_eqi (y := wyG B w (q + 1)) (by rw [e5, if_pos (Or.inl h1)]) ?_
                      exact K171
                    · refine wl_aload_n hX 3 rfl dX5_find_151 ?_
                      refine gf_X5_15 hX tb_515 dX5_find_152 ?_
                      refine wl_iconst hX (v := 3) dX5_find_155 (by decide) ?_
                      refine wl_iload hX 10 rfl dX5_find_156 ?_
                      refine wl_imul hX dX5_find_158 ?_
                      refine wl_iload hX 2 rfl dX5_find_159 ?_
                      refine wl_iadd hX dX5_find_161 ?_
                      refine wl_zald hX (3 * q + (dgW w q)) kc_27 (hx_ix3 q (dgW w q)) (by omega) dX5_find_162 ?_
                      refine wl_eqi (y := B 27 (3 * q + dgW w q)) (by rw [msM_ne (by decide) (by decide) (by decide)]) ?_
                      refine wl_if_eq hX (tgt := 170) dX5_find_163 (by decide) (fun h2 => ?_) (fun h2 => ?_)
                      · refine wl_iconst hX (v := 0) dX5_find_170 (by decide) ?_
                        refine wl_eqi (y := wyG B w (q + 1)) (by rw [e5, if_pos (Or.inr h2)]) ?_
                        exact K171
                      · refine wl_iconst hX (v := 1) dX5_find_166 (by decide) ?_
                        refine wl_goto hX (tgt := 171) dX5_find_167 (by decide) ?_
                        refine wl_eqi (y := wyG B w (q + 1)) (by rw [e5, if_neg (fun y => y.elim h1 h2)]) ?_
                        exact K171
              exact K (Q + 1) 0 (by omega) (by omega)
        exact M (N + 1) 0 (by omega) (by omega)
      · have hq1 : q < Q := Nat.lt_of_not_le (fun z => hqc ((nI_leI (by omega) (by omega)).mpr z))
        refine wl_aload_n hX 0 rfl dX5_find_12 ?_
        refine wl_iload_n hX 3 rfl dX5_find_13 ?_
        refine wl_iload_n hX 1 rfl dX5_find_14 ?_
        refine wl_cVi hX (c_X5_others hi (f1R I (fmO I P p) q) J q (by omega) P (by rw [f1R_ne (by decide) (by decide)]; exact hP) hP12 p hp) mv_X5_others tb_631 (by decide) rfl rfl rfl rfl (by omega) (Nat.le_of_ble_eq_true rfl) dX5_find_15 ?_
        refine wl_eqi (y := fmO I P p q) (by rw [vM_eq (f1R_ne (by decide) (by decide) q), f1R_ne (by decide) (by decide)]; rfl) ?_
        refine wl_istore hX (lv' := [(4, .int (fmO I P p q)), (0, .ref (ad 5)), (1, .int (nI p)), (2, .int (nI (3 ^ q))), (3, .int (nI q))]) rfl (by decide) dX5_find_18 ?_
        refine wl_aload_n hX 1 rfl dX5_find_20 ?_
        refine wl_iconst hX (v := 3) dX5_find_21 (by decide) ?_
        refine wl_iload_n hX 4 rfl dX5_find_22 ?_
        refine wl_imul hX dX5_find_23 ?_
        refine wl_eqi (y := nI (3 * q)) (hx_3 q) ?_
        refine wl_iload hX 0 rfl dX5_find_24 ?_
        have K37 : X 37 [(4, .int (fmO I P p q)), (0, .ref (ad 5)), (1, .int (nI p)), (2, .int (nI (3 ^ q))), (3, .int (nI q))] [.int (cvF (fmO I P p q) 0), .int (nI (3 * q)), .ref (ad 5)] (f1R I (fmO I P p) q) J := by
          refine wl_cVv hX (c_X5_end hi (f1R I (fmO I P p) q) J (3 * q) (cvF (fmO I P p q) 0) (by omega)) mv_X5_end tb_669 (by decide) rfl rfl rfl rfl (by omega) (Nat.le_of_ble_eq_true rfl) dX5_find_37 ?_
          refine wl_aload_n hX 1 rfl dX5_find_40 ?_
          refine wl_iconst hX (v := 3) dX5_find_41 (by decide) ?_
          refine wl_iload_n hX 4 rfl dX5_find_42 ?_
          refine wl_imul hX dX5_find_43 ?_
          refine wl_eqi (y := nI (3 * q)) (hx_3 q) ?_
          refine wl_iconst hX (v := 1) dX5_find_44 (by decide) ?_
          refine wl_iadd hX dX5_find_45 ?_
          refine wl_eqi (y := nI (3 * q + 1)) (nI_1 _) ?_
          refine wl_iload hX 0 rfl dX5_find_46 ?_
          refine wl_ineg hX dX5_find_48 ?_
          refine wl_eqi (y := cvF (fmO I P p q) 1) rfl ?_
          refine wl_cVv hX (c_X5_end hi (enM (f1R I (fmO I P p) q) (3 * q) (cvF (fmO I P p q) 0)) J (3 * q + 1) (cvF (fmO I P p q) 1) (by omega)) mv_X5_end tb_669 (by decide) rfl rfl rfl rfl (by omega) (Nat.le_of_ble_eq_true rfl) dX5_find_49 ?_
          refine wl_aload_n hX 1 rfl dX5_find_52 ?_
          refine wl_iconst hX (v := 3) dX5_find_53 (by decide) ?_
          refine wl_iload_n hX 4 rfl dX5_find_54 ?_
          refine wl_imul hX dX5_find_55 ?_
          refine wl_eqi (y := nI (3 * q)) (hx_3 q) ?_
          refine wl_iconst hX (v := 2) dX5_find_56 (by decide) ?_
          refine wl_iadd hX dX5_find_57 ?_
          refine wl_eqi (y := nI (3 * q + 2)) (nI_add (3 * q) 2) ?_
          refine wl_iload hX 0 rfl dX5_find_58 ?_
          have K71 : X 71 [(4, .int (fmO I P p q)), (0, .ref (ad 5)), (1, .int (nI p)), (2, .int (nI (3 ^ q))), (3, .int (nI q))] [.int (cvF (fmO I P p q) 2), .int (nI (3 * q + 2)), .ref (ad 5)] (enM (enM (f1R I (fmO I P p) q) (3 * q) (cvF (fmO I P p q) 0)) (3 * q + 1) (cvF (fmO I P p q) 1)) J := by
            refine wl_cVv hX (c_X5_end hi (enM (enM (f1R I (fmO I P p) q) (3 * q) (cvF (fmO I P p q) 0)) (3 * q + 1) (cvF (fmO I P p q) 1)) J (3 * q + 2) (cvF (fmO I P p q) 2) (by omega)) mv_X5_end tb_669 (by decide) rfl rfl rfl rfl (by omega) (Nat.le_of_ble_eq_true rfl) dX5_find_71 ?_
            refine wl_iload_n hX 3 rfl dX5_find_74 ?_
            refine wl_iconst hX (v := 3) dX5_find_75 (by decide) ?_
            refine wl_imul hX dX5_find_76 ?_
            refine wl_eqi (y := nI (3 ^ (q + 1))) (hx_x3 _) ?_
            refine wl_istore_n hX (lv' := [(2, .int (nI (3 ^ (q + 1)))), (4, .int (fmO I P p q)), (0, .ref (ad 5)), (1, .int (nI p)), (3, .int (nI q))]) rfl (by decide) dX5_find_77 ?_
            refine wl_iinc hX (v := nI (q + 1)) (lv' := [(3, .int (nI (q + 1))), (2, .int (nI (3 ^ (q + 1)))), (4, .int (fmO I P p q)), (0, .ref (ad 5)), (1, .int (nI p))]) 4 rfl (nI_1 _) rfl (by decide) dX5_find_78 ?_
            refine wl_goto hX (tgt := 4) dX5_find_81 (by decide) ?_
            refine wl_sub hX [3, 4, 1, 0] rfl ?_
            exact ihL (q + 1) (by omega) (by omega)
          refine wl_if_ge hX (tgt := 67) dX5_find_60 (by decide) (fun h3 => ?_) (fun h3 => ?_)
          · refine wl_iconst hX (v := (-1)) dX5_find_67 (by decide) ?_
            refine wl_iload hX 0 rfl dX5_find_68 ?_
            refine wl_isub hX dX5_find_70 ?_
            refine wl_eqi (y := cvF (fmO I P p q) 2) (by unfold cvF; rw [if_neg (by decide), if_neg (by decide), if_pos h3]) ?_
            exact K71
          · refine wl_iconst hX (v := 0) dX5_find_63 (by decide) ?_
            refine wl_goto hX (tgt := 71) dX5_find_64 (by decide) ?_
            refine wl_eqi (y := cvF (fmO I P p q) 2) (by unfold cvF; rw [if_neg (by decide), if_neg (by decide), if_neg h3]) ?_
            exact K71
        refine wl_if_le hX (tgt := 33) dX5_find_26 (by decide) (fun h2 => ?_) (fun h2 => ?_)
        · refine wl_iconst hX (v := 1) dX5_find_33 (by decide) ?_
          refine wl_iload hX 0 rfl dX5_find_34 ?_
          refine wl_isub hX dX5_find_36 ?_
          refine wl_eqi (y := cvF (fmO I P p q) 0) (by unfold cvF; rw [if_pos rfl, if_pos h2]) ?_
          exact K37
        · refine wl_iconst hX (v := 0) dX5_find_29 (by decide) ?_
          refine wl_goto hX (tgt := 37) dX5_find_30 (by decide) ?_
          refine wl_eqi (y := cvF (fmO I P p q) 0) (by unfold cvF; rw [if_pos rfl, if_neg h2]) ?_
          exact K37
  exact L (Q + 1) 0 (by omega) (by omega)

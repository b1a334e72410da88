/-! the law's loop -/
theorem and31 (x : Int32) : ∃ k : Nat, k < 32 ∧ x &&& 31 = nI k := by
  have h : (x &&& 31).toBitVec.toNat ≤ 31 := by
    rw [Int32.toBitVec_and, BitVec.toNat_and]
    exact Nat.and_le_right
  refine ⟨(x &&& 31).toBitVec.toNat, by omega, ?_⟩
  apply Int32.toBitVec_inj.mp
  apply BitVec.eq_of_toNat_eq
  show _ = (BitVec.ofNat 32 (x &&& 31).toBitVec.toNat).toNat
  rw [BitVec.toNat_ofNat, Nat.mod_eq_of_lt (by omega)]
theorem law_more {L i : Nat} (hL : L ≤ 2048) (hi : i ≤ 2052) (h : ¬ nI L - 4 < nI i) : i + 4 ≤ L := by
  have e : (nI L - nI 4).toInt = (L : Int) - (4 : Nat) := pk_sub_toInt (by omega) (by omega)
  have e3 : nI 4 = (4 : Int32) := by decide
  rw [e3] at e
  rw [Int32.lt_iff_toInt_lt, e, nI_toInt (by omega)] at h
  omega

set_option maxHeartbeats 1000000 in
theorem law_loop {l : Launch} {D : va_G} {ad : Nat → Nat} {cy : Nat → ClassId} {b L : Nat} {xs : Nat → Int32} {X : HX} (hi : hx_inj ad) (hX : Rl l D ad cy RL cL_law 4 13 X) (hS : Sc X b L xs) (hL : L ≤ 2048) : ∀ (n i : Nat) (I : MI) (J : MJ), i ≤ L + 4 → L + 4 - i < n → lawV I → X 18 [(3, .int (nI i)), (2, .ref (ad 5)), (1, .ref (ad 0)), (0, .ref b)] [] I J := by
  intro n
  induction n with
  | zero => exact fun _ _ _ _ h _ => absurd h (Nat.not_lt_zero _)
  | succ n ih =>
    intro i I J hiL hin hV
    refine wl_iload_n hX 0 rfl dL_law_18 ?_
    refine wl_aload_n hX 3 rfl dL_law_19 ?_
    refine hS.2.1 20 _ _ _ _ dL_law_20 ?_
    refine wl_iconst hX (v := 4) dL_law_21 (by decide) ?_
    refine wl_isub hX dL_law_22 ?_
    refine wl_icmp_gt hX (tgt := 960) dL_law_23 (by decide) (fun h1 => ?_) (fun h1 => ?_)
    · refine wl_iconst hX (v := 1) dL_law_960 (by decide) ?_
      exact hS.2.2 961 _ _ _ dL_law_961
    · have h4 : i + 4 ≤ L := law_more hL (by omega) h1
      have kk : ∀ I2 J2, lawV I2 → X 954 [(3, .int (nI i)), (2, .ref (ad 5)), (1, .ref (ad 0)), (0, .ref b)] [] I2 J2 := by
        intro I2 J2 hV2
        refine wl_iinc hX (v := nI (i + 4)) (lv' := [(3, .int (nI (i + 4))), (2, .ref (ad 5)), (1, .ref (ad 0)), (0, .ref b)]) 0 rfl (by exact hx_ip4 i) rfl (by decide) dL_law_954 ?_
        refine wl_goto hX (tgt := 18) dL_law_957 (by decide) ?_
        exact ih (i + 4) I2 J2 (by omega) (by omega) hV2
      refine wl_aload_n hX 3 rfl dL_law_26 ?_
      refine wl_iload_n hX 0 rfl dL_law_27 ?_
      refine hS.1 28 i _ _ _ _ (by omega) dL_law_28 ?_
      refine wl_bipush hX (v := 31) dL_law_29 (by decide) ?_
      refine wl_iand hX dL_law_31 ?_
      obtain ⟨k, hk, ek⟩ := and31 (xs i)
      refine wl_eqi ek ?_
      obtain ⟨P, Q, R, h⟩ := id hV
      match k, hk with
      | 0, _ =>
        refine wl_tableIn hX (off := 128) (tgt := 160) dL_law_32 (by decide) (by decide) rfl (by decide) ?_
        exact law_person hi hX hS h4 hL h kk
      | 1, _ =>
        refine wl_tableIn hX (off := 151) (tgt := 183) dL_law_32 (by decide) (by decide) rfl (by decide) ?_
        exact law_question hi hX hS h4 hL h kk
      | 2, _ =>
        refine wl_tableIn hX (off := 164) (tgt := 196) dL_law_32 (by decide) (by decide) rfl (by decide) ?_
        exact law_project hi hX hS h4 hL h kk
      | 3, _ =>
        refine wl_tableIn hX (off := 177) (tgt := 209) dL_law_32 (by decide) (by decide) rfl (by decide) ?_
        exact law_seed hi hX hS h4 hL h kk
      | 4, _ =>
        refine wl_tableIn hX (off := 200) (tgt := 232) dL_law_32 (by decide) (by decide) rfl (by decide) ?_
        exact law_vote hi hX hS h4 hL h kk
      | 5, _ =>
        refine wl_tableIn hX (off := 243) (tgt := 275) dL_law_32 (by decide) (by decide) rfl (by decide) ?_
        exact law_worth hi hX hS h4 hL h kk
      | 6, _ =>
        refine wl_tableIn hX (off := 286) (tgt := 318) dL_law_32 (by decide) (by decide) rfl (by decide) ?_
        by_cases hz : xs (i + 2) = 0
        · exact law_here0 hi hX hS h4 hL hz h kk
        · exact law_here1 hi hX hS h4 hL hz h kk
      | 7, _ =>
        refine wl_tableIn hX (off := 335) (tgt := 367) dL_law_32 (by decide) (by decide) rfl (by decide) ?_
        exact law_voices hi hX hS h4 hL h kk
      | 8, _ =>
        refine wl_tableIn hX (off := 368) (tgt := 400) dL_law_32 (by decide) (by decide) rfl (by decide) ?_
        exact law_cost hi hX hS h4 hL h kk
      | 9, _ =>
        refine wl_tableIn hX (off := 391) (tgt := 423) dL_law_32 (by decide) (by decide) rfl (by decide) ?_
        exact law_total hi hX hS h4 hL h kk
      | 10, _ =>
        refine wl_tableIn hX (off := 414) (tgt := 446) dL_law_32 (by decide) (by decide) rfl (by decide) ?_
        exact law_result hi hX hS h4 hL h kk
      | 11, _ =>
        refine wl_tableIn hX (off := 437) (tgt := 469) dL_law_32 (by decide) (by decide) rfl (by decide) ?_
        exact law_gain hi hX hS h4 hL h kk
      | 12, _ =>
        refine wl_tableIn hX (off := 460) (tgt := 492) dL_law_32 (by decide) (by decide) rfl (by decide) ?_
        exact law_swings hi hX hS h4 hL h kk
      | 13, _ =>
        refine wl_tableIn hX (off := 483) (tgt := 515) dL_law_32 (by decide) (by decide) rfl (by decide) ?_
        exact law_best hi hX hS h4 hL h kk
      | 14, _ =>
        refine wl_tableIn hX (off := 506) (tgt := 538) dL_law_32 (by decide) (by decide) rfl (by decide) ?_
        exact law_answer hi hX hS h4 hL h kk
      | 15, _ =>
        refine wl_tableIn hX (off := 539) (tgt := 571) dL_law_32 (by decide) (by decide) rfl (by decide) ?_
        exact law_take hi hX hS h4 hL h kk
      | 16, _ =>
        refine wl_tableIn hX (off := 562) (tgt := 594) dL_law_32 (by decide) (by decide) rfl (by decide) ?_
        exact law_play hi hX hS h4 hL h kk
      | 17, _ =>
        refine wl_tableIn hX (off := 585) (tgt := 617) dL_law_32 (by decide) (by decide) rfl (by decide) ?_
        exact law_ended hi hX hS h4 hL h kk
      | 18, _ =>
        refine wl_tableIn hX (off := 598) (tgt := 630) dL_law_32 (by decide) (by decide) rfl (by decide) ?_
        exact law_ring hi hX hS h4 hL h kk
      | 19, _ =>
        refine wl_tableIn hX (off := 611) (tgt := 643) dL_law_32 (by decide) (by decide) rfl (by decide) ?_
        exact law_gift hi hX hS h4 hL h kk
      | 20, _ =>
        refine wl_tableIn hX (off := 654) (tgt := 686) dL_law_32 (by decide) (by decide) rfl (by decide) ?_
        exact law_bond hi hX hS h4 hL h kk
      | 21, _ =>
        refine wl_tableIn hX (off := 697) (tgt := 729) dL_law_32 (by decide) (by decide) rfl (by decide) ?_
        exact law_matched hi hX hS h4 hL h kk
      | 22, _ =>
        refine wl_tableIn hX (off := 731) (tgt := 763) dL_law_32 (by decide) (by decide) rfl (by decide) ?_
        exact law_share hi hX hS h4 hL h kk
      | 23, _ =>
        refine wl_tableIn hX (off := 795) (tgt := 827) dL_law_32 (by decide) (by decide) rfl (by decide) ?_
        exact law_damped hi hX hS h4 hL h kk
      | 24, _ =>
        refine wl_tableIn hX (off := 819) (tgt := 851) dL_law_32 (by decide) (by decide) rfl (by decide) ?_
        exact law_likeness hi hX hS h4 hL h kk
      | 25, _ =>
        refine wl_tableIn hX (off := 852) (tgt := 884) dL_law_32 (by decide) (by decide) rfl (by decide) ?_
        exact law_group hi hX hS h4 hL h kk
      | 26, _ =>
        refine wl_tableIn hX (off := 885) (tgt := 917) dL_law_32 (by decide) (by decide) rfl (by decide) ?_
        exact law_count hi hX hS h4 hL h kk
      | 27, _ =>
        refine wl_tableIn hX (off := 908) (tgt := 940) dL_law_32 (by decide) (by decide) rfl (by decide) ?_
        exact law_digest hi hX hS h4 hL h kk
      | k + 28, hk =>
        refine wl_tableOut hX (tgt := 954) dL_law_32 (Or.inr (by rw [nI_toInt (by omega)]; omega)) (by decide) ?_
        exact kk I J hV

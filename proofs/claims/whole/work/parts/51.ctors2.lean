/-! the constructors with a loop -/
def mF (p j : Nat) (I : MI) : Prop := (∀ a, ¬ (112 ≤ a ∧ a < 124) → I a = IZ a) ∧ ∀ p' j', p' < 12 → j' < 12 → (p' < p ∨ (p' = p ∧ j' < j)) → I (112 + p') j' = 1000
theorem mF_next {p j : Nat} {I : MI} (h : mF p j I) (hp : p < 12) : mF p (j + 1) (hx_u I (112 + p) j 1000) := by
  refine ⟨fun a ha => by rw [hx_u_ne _ _ _ (by omega)]; exact h.1 a ha, fun p' j' hp' hj' hc => ?_⟩
  rw [row_at]
  by_cases c : p' = p ∧ j' = j
  · rw [if_pos c]
  · rw [if_neg c]
    exact h.2 p' j' hp' hj' (by omega)
theorem mF_row {p : Nat} {I : MI} (h : mF p 12 I) : mF (p + 1) 0 I := ⟨h.1, fun p' j' hp' hj' hc => h.2 p' j' hp' hj' (by omega)⟩
def mM (j : Nat) (I : MI) : Prop := (∀ a, a ≠ 25 → I a = IZ a) ∧ ∀ j', j' < j → I 25 j' = 1000
theorem mM_next {j : Nat} {I : MI} (h : mM j I) : mM (j + 1) (hx_u I 25 j 1000) := by
  refine ⟨fun a ha => by rw [hx_u_ne _ _ _ ha]; exact h.1 a ha, fun j' hj' => ?_⟩
  by_cases c : j' = j
  · rw [c, hx_u_at1]
  · rw [hx_u_at2 _ _ c]
    exact h.2 j' (by omega)
theorem i0_zz {k : Nat} (h : ¬ (k = 25 ∨ 112 ≤ k)) : I0 k = IZ k := funext (fun i => if_neg h)
theorem i0_1 {k i : Nat} (h : k = 25 ∨ 112 ≤ k) : I0 k i = 1000 := if_pos h
theorem row18 : ∀ p, p < 12 → ([17, 100, 101, 102, 103, 104, 105, 106, 107, 108, 109, 110, 111, 18, 112, 113, 114, 115, 116, 117, 118, 119, 120, 121, 122, 123, 19] : List Nat)[14 + p]? = some (112 + p) := by decide +kernel
set_option maxHeartbeats 1000000 in
theorem k_X0 {l : Launch} {D : va_G} {h0 : Nat} {cy : Nat → ClassId} : Cc l D h0 cy yX0_init cX0_init 4 1 27 246 [.ref (adh h0 1)] 4 0 [.null, .int 0, .null, .null, .null] 83 110 [4, 17, 100, 101, 102, 103, 104, 105, 106, 107, 108, 109, 110, 111, 18, 112, 113, 114, 115, 116, 117, 118, 119, 120, 121, 122, 123, 19] I0 J0 := by
  refine cc_start IZ J0 (by decide +kernel) rfl (Nat.le_of_ble_eq_true rfl) (fun X hX hE => ?_)
  show X 0 [(0, .ref (adh h0 4)), (1, .ref (adh h0 1))] [] [(adh h0 4, .inr (0, [.null, .int 0, .null, .null, .null]))] [] [] IZ J0 83 0 0
  refine wc_aload_n hX 0 rfl dX0_init_0 ?_
  refine wc_obj hX tb_168 tb_39 tb_obj (by decide) (by decide) dX0_init_1 ?_
  refine wc_aload_n hX 0 rfl dX0_init_4 ?_
  refine wc_bipush hX (v := 12) dX0_init_5 (by decide) ?_
  refine wc_bipush hX (v := 6) dX0_init_7 (by decide) ?_
  refine wc_grid4 hX (k := 17) (N := 12) (b := 100) (K := 6) kc_17 (fun j hj => kd_100 hj) rfl (adh_row (by decide +kernel)) (fun j i hj => rfl) tb_169 tb_85 (by decide) (by decide) (by decide) (by decide) (by decide) (by decide) dX0_init_9 ?_
  show X 13 [(0, .ref (adh h0 4)), (1, .ref (adh h0 1))] [.ref (adh h0 17), .ref (adh h0 4)] [(adh h0 4, .inr (0, [.null, .int 0, .null, .null, .null]))] [17, 100, 101, 102, 103, 104, 105, 106, 107, 108, 109, 110, 111] [] IZ J0 96 13 84
  refine wc_putF hX (ci := 0) (C := RX0) (T := TX0) (N := 5) (j := 2) (ty := tyX0) rfl inX0 tyX0_ok nmX0 (by decide) tb_173 rfl trivial rfl rfl rfl (Nat.le_of_ble_eq_true rfl) dX0_init_13 ?_
  show X 16 [(0, .ref (adh h0 4)), (1, .ref (adh h0 1))] [] [(adh h0 4, .inr (0, [.null, .int 0, .ref (adh h0 17), .null, .null]))] [17, 100, 101, 102, 103, 104, 105, 106, 107, 108, 109, 110, 111] [] IZ J0 96 13 84
  refine wc_aload_n hX 0 rfl dX0_init_16 ?_
  refine wc_bipush hX (v := 12) dX0_init_17 (by decide) ?_
  refine wc_bipush hX (v := 12) dX0_init_19 (by decide) ?_
  refine wc_grid4 hX (k := 18) (N := 12) (b := 112) (K := 12) kc_18 (fun j hj => kd_112 hj) rfl (adh_row (by decide +kernel)) (fun j i hj => rfl) tb_169 tb_85 (by decide) (by decide) (by decide) (by decide) (by decide) (by decide) dX0_init_21 ?_
  show X 25 [(0, .ref (adh h0 4)), (1, .ref (adh h0 1))] [.ref (adh h0 18), .ref (adh h0 4)] [(adh h0 4, .inr (0, [.null, .int 0, .ref (adh h0 17), .null, .null]))] [17, 100, 101, 102, 103, 104, 105, 106, 107, 108, 109, 110, 111, 18, 112, 113, 114, 115, 116, 117, 118, 119, 120, 121, 122, 123] [] IZ J0 109 26 240
  refine wc_putF hX (ci := 0) (C := RX0) (T := TX0) (N := 5) (j := 3) (ty := tyX0) rfl inX0 tyX0_ok nmX0 (by decide) tb_175 rfl trivial rfl rfl rfl (Nat.le_of_ble_eq_true rfl) dX0_init_25 ?_
  show X 28 [(0, .ref (adh h0 4)), (1, .ref (adh h0 1))] [] [(adh h0 4, .inr (0, [.null, .int 0, .ref (adh h0 17), .ref (adh h0 18), .null]))] [17, 100, 101, 102, 103, 104, 105, 106, 107, 108, 109, 110, 111, 18, 112, 113, 114, 115, 116, 117, 118, 119, 120, 121, 122, 123] [] IZ J0 109 26 240
  refine wc_aload_n hX 0 rfl dX0_init_28 ?_
  refine wc_bipush hX (v := 6) dX0_init_29 (by decide) ?_
  refine wc_newl hX (k := 19) (N := 6) kc_19 rfl (fun _ => rfl) tb_162 (by decide) (by decide) (by decide) (by decide) dX0_init_31 ?_
  show X 33 [(0, .ref (adh h0 4)), (1, .ref (adh h0 1))] [.ref (adh h0 19), .ref (adh h0 4)] [(adh h0 4, .inr (0, [.null, .int 0, .ref (adh h0 17), .ref (adh h0 18), .null]))] [17, 100, 101, 102, 103, 104, 105, 106, 107, 108, 109, 110, 111, 18, 112, 113, 114, 115, 116, 117, 118, 119, 120, 121, 122, 123, 19] [] IZ J0 110 27 246
  refine wc_putF hX (ci := 0) (C := RX0) (T := TX0) (N := 5) (j := 4) (ty := tyX0) rfl inX0 tyX0_ok nmX0 (by decide) tb_177 rfl trivial rfl rfl rfl (Nat.le_of_ble_eq_true rfl) dX0_init_33 ?_
  show X 36 [(0, .ref (adh h0 4)), (1, .ref (adh h0 1))] [] [(adh h0 4, .inr (0, [.null, .int 0, .ref (adh h0 17), .ref (adh h0 18), .ref (adh h0 19)]))] [17, 100, 101, 102, 103, 104, 105, 106, 107, 108, 109, 110, 111, 18, 112, 113, 114, 115, 116, 117, 118, 119, 120, 121, 122, 123, 19] [] IZ J0 110 27 246
  refine wc_aload_n hX 0 rfl dX0_init_36 ?_
  refine wc_aload_n hX 1 rfl dX0_init_37 ?_
  refine wc_putF hX (ci := 0) (C := RX0) (T := TX0) (N := 5) (j := 0) (ty := tyX0) rfl inX0 tyX0_ok nmX0 (by decide) tb_170 rfl trivial rfl rfl rfl (Nat.le_of_ble_eq_true rfl) dX0_init_38 ?_
  show X 41 [(0, .ref (adh h0 4)), (1, .ref (adh h0 1))] [] [(adh h0 4, .inr (0, [.ref (adh h0 1), .int 0, .ref (adh h0 17), .ref (adh h0 18), .ref (adh h0 19)]))] [17, 100, 101, 102, 103, 104, 105, 106, 107, 108, 109, 110, 111, 18, 112, 113, 114, 115, 116, 117, 118, 119, 120, 121, 122, 123, 19] [] IZ J0 110 27 246
  refine wc_iconst hX (v := 0) dX0_init_41 (by decide) ?_
  refine wc_istore_n hX (lv' := [(2, .int 0), (0, .ref (adh h0 4)), (1, .ref (adh h0 1))]) rfl (by decide) dX0_init_42 ?_
  have L : ∀ (n p : Nat) (I : MI), p ≤ 12 → 12 - p < n → mF p 0 I → X 43 [(2, .int (nI p)), (0, .ref (adh h0 4)), (1, .ref (adh h0 1))] [] [(adh h0 4, .inr (0, [.ref (adh h0 1), .int 0, .ref (adh h0 17), .ref (adh h0 18), .ref (adh h0 19)]))] [17, 100, 101, 102, 103, 104, 105, 106, 107, 108, 109, 110, 111, 18, 112, 113, 114, 115, 116, 117, 118, 119, 120, 121, 122, 123, 19] [] I J0 110 27 246 := by
    intro n
    induction n with
    | zero => exact fun _ _ _ h _ => absurd h (Nat.not_lt_zero _)
    | succ n ih =>
      intro p I hp hn hI
      refine wc_iload_n hX 0 rfl dX0_init_43 ?_
      refine wc_bipush hX (v := 12) dX0_init_44 (by decide) ?_
      refine wc_icmp_ge hX (tgt := 80) dX0_init_46 (by decide) (fun h1 => ?_) (fun h1 => ?_)
      · have hp12 : p = 12 := by
          have h9 := (nI_leI (a := 12) (by omega) (by omega)).mp h1
          omega
        subst hp12
        refine hE 80 _ _ _ _ _ _ _ dX0_init_80 (by decide) (by decide) (fun H h => ?_)
        rw [List.append_nil] at h
        have h2 : va_P D vwCl (hks h0 cy I J0 (4 :: [17, 100, 101, 102, 103, 104, 105, 106, 107, 108, 109, 110, 111, 18, 112, 113, 114, 115, 116, 117, 118, 119, 120, 121, 122, 123, 19])) H := by
          have e1 : I 4 = IZ 4 := hI.1 4 (by decide)
          have e2 : (adh h0 4, hx_ce (adh h0) cy I J0 4) = (adh h0 4, hx_ce (adh h0) cy IZ J0 4) := by rw [hx_ce_eq (I := IZ) (I' := I) e1 rfl]
          show va_P D vwCl ((adh h0 4, hx_ce (adh h0) cy I J0 4) :: hks h0 cy I J0 [17, 100, 101, 102, 103, 104, 105, 106, 107, 108, 109, 110, 111, 18, 112, 113, 114, 115, 116, 117, 118, 119, 120, 121, 122, 123, 19]) H
          rw [e2]
          exact h
        refine hks_conv (I := I) (fun k hk => ?_) h2
        by_cases c : k = 25 ∨ 112 ≤ k
        · have c2 : ∀ k ∈ (4 :: [17, 100, 101, 102, 103, 104, 105, 106, 107, 108, 109, 110, 111, 18, 112, 113, 114, 115, 116, 117, 118, 119, 120, 121, 122, 123, 19]), k = 25 ∨ 112 ≤ k → 112 ≤ k ∧ k < 124 := by decide +kernel
          obtain ⟨c3, c4⟩ := c2 k hk c
          obtain ⟨q, rfl⟩ : ∃ q, k = 112 + q := ⟨k - 112, by omega⟩
          exact Or.inr ⟨12, 0, kd_112 (by omega), fun i hi => by rw [i0_1 c, hI.2 q i (by omega) hi (Or.inl (by omega))]⟩
        · exact Or.inl ((i0_zz c).trans (hI.1 k (by omega)).symm)
      · have hp1 : p < 12 := Nat.lt_of_not_le (fun z => h1 ((nI_leI (a := 12) (by omega) (by omega)).mpr z))
        refine wc_iconst hX (v := 0) dX0_init_49 (by decide) ?_
        refine wc_istore_n hX (lv' := [(3, .int 0), (2, .int (nI p)), (0, .ref (adh h0 4)), (1, .ref (adh h0 1))]) rfl (by decide) dX0_init_50 ?_
        have M : ∀ (n j : Nat) (I : MI), j ≤ 12 → 12 - j < n → mF p j I → X 51 [(3, .int (nI j)), (2, .int (nI p)), (0, .ref (adh h0 4)), (1, .ref (adh h0 1))] [] [(adh h0 4, .inr (0, [.ref (adh h0 1), .int 0, .ref (adh h0 17), .ref (adh h0 18), .ref (adh h0 19)]))] [17, 100, 101, 102, 103, 104, 105, 106, 107, 108, 109, 110, 111, 18, 112, 113, 114, 115, 116, 117, 118, 119, 120, 121, 122, 123, 19] [] I J0 110 27 246 := by
          intro n
          induction n with
          | zero => exact fun _ _ _ h _ => absurd h (Nat.not_lt_zero _)
          | succ n ihM =>
            intro j I hj hn hI
            refine wc_iload_n hX 0 rfl dX0_init_51 ?_
            refine wc_bipush hX (v := 12) dX0_init_52 (by decide) ?_
            refine wc_icmp_ge hX (tgt := 74) dX0_init_54 (by decide) (fun h2 => ?_) (fun h2 => ?_)
            · have hj12 : j = 12 := by
                have h9 := (nI_leI (a := 12) (by omega) (by omega)).mp h2
                omega
              subst hj12
              refine wc_iinc hX (v := nI (p + 1)) (lv' := [(2, .int (nI (p + 1))), (3, .int (nI 12)), (0, .ref (adh h0 4)), (1, .ref (adh h0 1))]) 1 rfl (nI_1 _) rfl (by decide) dX0_init_74 ?_
              refine wc_goto hX (tgt := 43) dX0_init_77 (by decide) ?_
              refine wc_sub hX [0, 2, 3] rfl ?_
              exact ih (p + 1) I (by omega) (by omega) (mF_row hI)
            · have hj1 : j < 12 := Nat.lt_of_not_le (fun z => h2 ((nI_leI (a := 12) (by omega) (by omega)).mpr z))
              refine wc_aload_n hX 2 rfl dX0_init_57 ?_
              refine wc_get hX (ci := 0) (C := RX0) (T := TX0) (N := 5) (j := 3) rfl inX0 (by decide) tb_175 rfl dX0_init_58 ?_
              refine wc_iload_n hX 1 rfl dX0_init_61 ?_
              refine wc_aald4 hX (k := 18) (n := 12) (b := 112) 13 p rfl kc_18 rfl hp1 dX0_init_62 ?_
              refine wc_iload_n hX 0 rfl dX0_init_63 ?_
              refine wc_sipush hX (v := 1000) dX0_init_64 (by decide) ?_
              refine wc_iast hX (k := 112 + p) (n := 12) (b := 0) (14 + p) j (row18 p hp1) (by decide +kernel) (kd_112 hp1) rfl hj1 dX0_init_67 ?_
              refine wc_iinc hX (v := nI (j + 1)) (lv' := [(3, .int (nI (j + 1))), (2, .int (nI p)), (0, .ref (adh h0 4)), (1, .ref (adh h0 1))]) 0 rfl (nI_1 _) rfl (by decide) dX0_init_68 ?_
              refine wc_goto hX (tgt := 51) dX0_init_71 (by decide) ?_
              exact ihM (j + 1) _ (by omega) (by omega) (mF_next hI hp1)
        exact M 13 0 I (by omega) (by omega) hI
  exact L 13 0 IZ (by omega) (by omega) ⟨fun _ _ => rfl, fun p' j' _ _ hc => absurd hc (by omega)⟩

set_option maxHeartbeats 1000000 in
theorem k_X5 {l : Launch} {D : va_G} {h0 : Nat} {cy : Nat → ClassId} : Cc l D h0 cy yX5_init cX5_init 2 1 13 2676 [] 5 5 [.int 0, .int 0, .int 0, .int 0, .null, .null, .null, .null, .null, .null, .int 0, .int 0, .int 0, .int 0, .null, .null, .null, .null, .int 0, .int 0, .int 0, .null, .null, .null, .long 0] 111 124 [5, 20, 21, 22, 23, 24, 25, 26, 27, 28, 29, 30, 31, 32] I0 J0 := by
  refine cc_start IZ J0 (by decide +kernel) rfl (Nat.le_of_ble_eq_true rfl) (fun X hX hE => ?_)
  show X 0 [(0, .ref (adh h0 5))] [] [(adh h0 5, .inr (5, [.int 0, .int 0, .int 0, .int 0, .null, .null, .null, .null, .null, .null, .int 0, .int 0, .int 0, .int 0, .null, .null, .null, .null, .int 0, .int 0, .int 0, .null, .null, .null, .long 0]))] [] [] IZ J0 111 0 0
  refine wc_aload_n hX 0 rfl dX5_init_0 ?_
  refine wc_obj hX tb_499 tb_39 tb_obj (by decide) (by decide) dX5_init_1 ?_
  refine wc_aload_n hX 0 rfl dX5_init_4 ?_
  refine wc_bipush hX (v := 12) dX5_init_5 (by decide) ?_
  refine wc_newi hX (k := 20) (N := 12) kc_20 rfl (fun i => rfl) tb_85 (by decide) (by decide) (by decide) (by decide) dX5_init_7 ?_
  show X 9 [(0, .ref (adh h0 5))] [.ref (adh h0 20), .ref (adh h0 5)] [(adh h0 5, .inr (5, [.int 0, .int 0, .int 0, .int 0, .null, .null, .null, .null, .null, .null, .int 0, .int 0, .int 0, .int 0, .null, .null, .null, .null, .int 0, .int 0, .int 0, .null, .null, .null, .long 0]))] [20] [] IZ J0 112 1 12
  refine wc_putF hX (ci := 5) (C := RX5) (T := TX5) (N := 25) (j := 4) (ty := tyX5) rfl inX5 tyX5_ok nmX5 (by decide) tb_504 rfl trivial rfl rfl rfl (Nat.le_of_ble_eq_true rfl) dX5_init_9 ?_
  show X 12 [(0, .ref (adh h0 5))] [] [(adh h0 5, .inr (5, [.int 0, .int 0, .int 0, .int 0, .ref (adh h0 20), .null, .null, .null, .null, .null, .int 0, .int 0, .int 0, .int 0, .null, .null, .null, .null, .int 0, .int 0, .int 0, .null, .null, .null, .long 0]))] [20] [] IZ J0 112 1 12
  refine wc_aload_n hX 0 rfl dX5_init_12 ?_
  refine wc_bipush hX (v := 12) dX5_init_13 (by decide) ?_
  refine wc_newz hX (k := 21) (N := 12) kc_21 rfl (fun i => rfl) tb_86 (by decide) (by decide) (by decide) (by decide) dX5_init_15 ?_
  show X 17 [(0, .ref (adh h0 5))] [.ref (adh h0 21), .ref (adh h0 5)] [(adh h0 5, .inr (5, [.int 0, .int 0, .int 0, .int 0, .ref (adh h0 20), .null, .null, .null, .null, .null, .int 0, .int 0, .int 0, .int 0, .null, .null, .null, .null, .int 0, .int 0, .int 0, .null, .null, .null, .long 0]))] [20, 21] [] IZ J0 113 2 24
  refine wc_putF hX (ci := 5) (C := RX5) (T := TX5) (N := 25) (j := 5) (ty := tyX5) rfl inX5 tyX5_ok nmX5 (by decide) tb_505 rfl trivial rfl rfl rfl (Nat.le_of_ble_eq_true rfl) dX5_init_17 ?_
  show X 20 [(0, .ref (adh h0 5))] [] [(adh h0 5, .inr (5, [.int 0, .int 0, .int 0, .int 0, .ref (adh h0 20), .ref (adh h0 21), .null, .null, .null, .null, .int 0, .int 0, .int 0, .int 0, .null, .null, .null, .null, .int 0, .int 0, .int 0, .null, .null, .null, .long 0]))] [20, 21] [] IZ J0 113 2 24
  refine wc_aload_n hX 0 rfl dX5_init_20 ?_
  refine wc_bipush hX (v := 72) dX5_init_21 (by decide) ?_
  refine wc_newi hX (k := 22) (N := 72) kc_22 rfl (fun i => rfl) tb_85 (by decide) (by decide) (by decide) (by decide) dX5_init_23 ?_
  show X 25 [(0, .ref (adh h0 5))] [.ref (adh h0 22), .ref (adh h0 5)] [(adh h0 5, .inr (5, [.int 0, .int 0, .int 0, .int 0, .ref (adh h0 20), .ref (adh h0 21), .null, .null, .null, .null, .int 0, .int 0, .int 0, .int 0, .null, .null, .null, .null, .int 0, .int 0, .int 0, .null, .null, .null, .long 0]))] [20, 21, 22] [] IZ J0 114 3 96
  refine wc_putF hX (ci := 5) (C := RX5) (T := TX5) (N := 25) (j := 6) (ty := tyX5) rfl inX5 tyX5_ok nmX5 (by decide) tb_506 rfl trivial rfl rfl rfl (Nat.le_of_ble_eq_true rfl) dX5_init_25 ?_
  show X 28 [(0, .ref (adh h0 5))] [] [(adh h0 5, .inr (5, [.int 0, .int 0, .int 0, .int 0, .ref (adh h0 20), .ref (adh h0 21), .ref (adh h0 22), .null, .null, .null, .int 0, .int 0, .int 0, .int 0, .null, .null, .null, .null, .int 0, .int 0, .int 0, .null, .null, .null, .long 0]))] [20, 21, 22] [] IZ J0 114 3 96
  refine wc_aload_n hX 0 rfl dX5_init_28 ?_
  refine wc_bipush hX (v := 72) dX5_init_29 (by decide) ?_
  refine wc_newi hX (k := 23) (N := 72) kc_23 rfl (fun i => rfl) tb_85 (by decide) (by decide) (by decide) (by decide) dX5_init_31 ?_
  show X 33 [(0, .ref (adh h0 5))] [.ref (adh h0 23), .ref (adh h0 5)] [(adh h0 5, .inr (5, [.int 0, .int 0, .int 0, .int 0, .ref (adh h0 20), .ref (adh h0 21), .ref (adh h0 22), .null, .null, .null, .int 0, .int 0, .int 0, .int 0, .null, .null, .null, .null, .int 0, .int 0, .int 0, .null, .null, .null, .long 0]))] [20, 21, 22, 23] [] IZ J0 115 4 168
  refine wc_putF hX (ci := 5) (C := RX5) (T := TX5) (N := 25) (j := 7) (ty := tyX5) rfl inX5 tyX5_ok nmX5 (by decide) tb_507 rfl trivial rfl rfl rfl (Nat.le_of_ble_eq_true rfl) dX5_init_33 ?_
  show X 36 [(0, .ref (adh h0 5))] [] [(adh h0 5, .inr (5, [.int 0, .int 0, .int 0, .int 0, .ref (adh h0 20), .ref (adh h0 21), .ref (adh h0 22), .ref (adh h0 23), .null, .null, .int 0, .int 0, .int 0, .int 0, .null, .null, .null, .null, .int 0, .int 0, .int 0, .null, .null, .null, .long 0]))] [20, 21, 22, 23] [] IZ J0 115 4 168
  refine wc_aload_n hX 0 rfl dX5_init_36 ?_
  refine wc_bipush hX (v := 72) dX5_init_37 (by decide) ?_
  refine wc_newi hX (k := 24) (N := 72) kc_24 rfl (fun i => rfl) tb_85 (by decide) (by decide) (by decide) (by decide) dX5_init_39 ?_
  show X 41 [(0, .ref (adh h0 5))] [.ref (adh h0 24), .ref (adh h0 5)] [(adh h0 5, .inr (5, [.int 0, .int 0, .int 0, .int 0, .ref (adh h0 20), .ref (adh h0 21), .ref (adh h0 22), .ref (adh h0 23), .null, .null, .int 0, .int 0, .int 0, .int 0, .null, .null, .null, .null, .int 0, .int 0, .int 0, .null, .null, .null, .long 0]))] [20, 21, 22, 23, 24] [] IZ J0 116 5 240
  refine wc_putF hX (ci := 5) (C := RX5) (T := TX5) (N := 25) (j := 8) (ty := tyX5) rfl inX5 tyX5_ok nmX5 (by decide) tb_508 rfl trivial rfl rfl rfl (Nat.le_of_ble_eq_true rfl) dX5_init_41 ?_
  show X 44 [(0, .ref (adh h0 5))] [] [(adh h0 5, .inr (5, [.int 0, .int 0, .int 0, .int 0, .ref (adh h0 20), .ref (adh h0 21), .ref (adh h0 22), .ref (adh h0 23), .ref (adh h0 24), .null, .int 0, .int 0, .int 0, .int 0, .null, .null, .null, .null, .int 0, .int 0, .int 0, .null, .null, .null, .long 0]))] [20, 21, 22, 23, 24] [] IZ J0 116 5 240
  refine wc_aload_n hX 0 rfl dX5_init_44 ?_
  refine wc_sipush hX (v := 144) dX5_init_45 (by decide) ?_
  refine wc_newi hX (k := 25) (N := 144) kc_25 rfl (fun i => rfl) tb_85 (by decide) (by decide) (by decide) (by decide) dX5_init_48 ?_
  show X 50 [(0, .ref (adh h0 5))] [.ref (adh h0 25), .ref (adh h0 5)] [(adh h0 5, .inr (5, [.int 0, .int 0, .int 0, .int 0, .ref (adh h0 20), .ref (adh h0 21), .ref (adh h0 22), .ref (adh h0 23), .ref (adh h0 24), .null, .int 0, .int 0, .int 0, .int 0, .null, .null, .null, .null, .int 0, .int 0, .int 0, .null, .null, .null, .long 0]))] [20, 21, 22, 23, 24, 25] [] IZ J0 117 6 384
  refine wc_putF hX (ci := 5) (C := RX5) (T := TX5) (N := 25) (j := 9) (ty := tyX5) rfl inX5 tyX5_ok nmX5 (by decide) tb_509 rfl trivial rfl rfl rfl (Nat.le_of_ble_eq_true rfl) dX5_init_50 ?_
  show X 53 [(0, .ref (adh h0 5))] [] [(adh h0 5, .inr (5, [.int 0, .int 0, .int 0, .int 0, .ref (adh h0 20), .ref (adh h0 21), .ref (adh h0 22), .ref (adh h0 23), .ref (adh h0 24), .ref (adh h0 25), .int 0, .int 0, .int 0, .int 0, .null, .null, .null, .null, .int 0, .int 0, .int 0, .null, .null, .null, .long 0]))] [20, 21, 22, 23, 24, 25] [] IZ J0 117 6 384
  refine wc_aload_n hX 0 rfl dX5_init_53 ?_
  refine wc_bipush hX (v := 18) dX5_init_54 (by decide) ?_
  refine wc_newi hX (k := 26) (N := 18) kc_26 rfl (fun i => rfl) tb_85 (by decide) (by decide) (by decide) (by decide) dX5_init_56 ?_
  show X 58 [(0, .ref (adh h0 5))] [.ref (adh h0 26), .ref (adh h0 5)] [(adh h0 5, .inr (5, [.int 0, .int 0, .int 0, .int 0, .ref (adh h0 20), .ref (adh h0 21), .ref (adh h0 22), .ref (adh h0 23), .ref (adh h0 24), .ref (adh h0 25), .int 0, .int 0, .int 0, .int 0, .null, .null, .null, .null, .int 0, .int 0, .int 0, .null, .null, .null, .long 0]))] [20, 21, 22, 23, 24, 25, 26] [] IZ J0 118 7 402
  refine wc_putF hX (ci := 5) (C := RX5) (T := TX5) (N := 25) (j := 14) (ty := tyX5) rfl inX5 tyX5_ok nmX5 (by decide) tb_514 rfl trivial rfl rfl rfl (Nat.le_of_ble_eq_true rfl) dX5_init_58 ?_
  show X 61 [(0, .ref (adh h0 5))] [] [(adh h0 5, .inr (5, [.int 0, .int 0, .int 0, .int 0, .ref (adh h0 20), .ref (adh h0 21), .ref (adh h0 22), .ref (adh h0 23), .ref (adh h0 24), .ref (adh h0 25), .int 0, .int 0, .int 0, .int 0, .ref (adh h0 26), .null, .null, .null, .int 0, .int 0, .int 0, .null, .null, .null, .long 0]))] [20, 21, 22, 23, 24, 25, 26] [] IZ J0 118 7 402
  refine wc_aload_n hX 0 rfl dX5_init_61 ?_
  refine wc_bipush hX (v := 18) dX5_init_62 (by decide) ?_
  refine wc_newz hX (k := 27) (N := 18) kc_27 rfl (fun i => rfl) tb_86 (by decide) (by decide) (by decide) (by decide) dX5_init_64 ?_
  show X 66 [(0, .ref (adh h0 5))] [.ref (adh h0 27), .ref (adh h0 5)] [(adh h0 5, .inr (5, [.int 0, .int 0, .int 0, .int 0, .ref (adh h0 20), .ref (adh h0 21), .ref (adh h0 22), .ref (adh h0 23), .ref (adh h0 24), .ref (adh h0 25), .int 0, .int 0, .int 0, .int 0, .ref (adh h0 26), .null, .null, .null, .int 0, .int 0, .int 0, .null, .null, .null, .long 0]))] [20, 21, 22, 23, 24, 25, 26, 27] [] IZ J0 119 8 420
  refine wc_putF hX (ci := 5) (C := RX5) (T := TX5) (N := 25) (j := 15) (ty := tyX5) rfl inX5 tyX5_ok nmX5 (by decide) tb_515 rfl trivial rfl rfl rfl (Nat.le_of_ble_eq_true rfl) dX5_init_66 ?_
  show X 69 [(0, .ref (adh h0 5))] [] [(adh h0 5, .inr (5, [.int 0, .int 0, .int 0, .int 0, .ref (adh h0 20), .ref (adh h0 21), .ref (adh h0 22), .ref (adh h0 23), .ref (adh h0 24), .ref (adh h0 25), .int 0, .int 0, .int 0, .int 0, .ref (adh h0 26), .ref (adh h0 27), .null, .null, .int 0, .int 0, .int 0, .null, .null, .null, .long 0]))] [20, 21, 22, 23, 24, 25, 26, 27] [] IZ J0 119 8 420
  refine wc_aload_n hX 0 rfl dX5_init_69 ?_
  refine wc_bipush hX (v := 6) dX5_init_70 (by decide) ?_
  refine wc_newi hX (k := 28) (N := 6) kc_28 rfl (fun i => rfl) tb_85 (by decide) (by decide) (by decide) (by decide) dX5_init_72 ?_
  show X 74 [(0, .ref (adh h0 5))] [.ref (adh h0 28), .ref (adh h0 5)] [(adh h0 5, .inr (5, [.int 0, .int 0, .int 0, .int 0, .ref (adh h0 20), .ref (adh h0 21), .ref (adh h0 22), .ref (adh h0 23), .ref (adh h0 24), .ref (adh h0 25), .int 0, .int 0, .int 0, .int 0, .ref (adh h0 26), .ref (adh h0 27), .null, .null, .int 0, .int 0, .int 0, .null, .null, .null, .long 0]))] [20, 21, 22, 23, 24, 25, 26, 27, 28] [] IZ J0 120 9 426
  refine wc_putF hX (ci := 5) (C := RX5) (T := TX5) (N := 25) (j := 16) (ty := tyX5) rfl inX5 tyX5_ok nmX5 (by decide) tb_516 rfl trivial rfl rfl rfl (Nat.le_of_ble_eq_true rfl) dX5_init_74 ?_
  show X 77 [(0, .ref (adh h0 5))] [] [(adh h0 5, .inr (5, [.int 0, .int 0, .int 0, .int 0, .ref (adh h0 20), .ref (adh h0 21), .ref (adh h0 22), .ref (adh h0 23), .ref (adh h0 24), .ref (adh h0 25), .int 0, .int 0, .int 0, .int 0, .ref (adh h0 26), .ref (adh h0 27), .ref (adh h0 28), .null, .int 0, .int 0, .int 0, .null, .null, .null, .long 0]))] [20, 21, 22, 23, 24, 25, 26, 27, 28] [] IZ J0 120 9 426
  refine wc_aload_n hX 0 rfl dX5_init_77 ?_
  refine wc_bipush hX (v := 6) dX5_init_78 (by decide) ?_
  refine wc_newi hX (k := 29) (N := 6) kc_29 rfl (fun i => rfl) tb_85 (by decide) (by decide) (by decide) (by decide) dX5_init_80 ?_
  show X 82 [(0, .ref (adh h0 5))] [.ref (adh h0 29), .ref (adh h0 5)] [(adh h0 5, .inr (5, [.int 0, .int 0, .int 0, .int 0, .ref (adh h0 20), .ref (adh h0 21), .ref (adh h0 22), .ref (adh h0 23), .ref (adh h0 24), .ref (adh h0 25), .int 0, .int 0, .int 0, .int 0, .ref (adh h0 26), .ref (adh h0 27), .ref (adh h0 28), .null, .int 0, .int 0, .int 0, .null, .null, .null, .long 0]))] [20, 21, 22, 23, 24, 25, 26, 27, 28, 29] [] IZ J0 121 10 432
  refine wc_putF hX (ci := 5) (C := RX5) (T := TX5) (N := 25) (j := 17) (ty := tyX5) rfl inX5 tyX5_ok nmX5 (by decide) tb_517 rfl trivial rfl rfl rfl (Nat.le_of_ble_eq_true rfl) dX5_init_82 ?_
  show X 85 [(0, .ref (adh h0 5))] [] [(adh h0 5, .inr (5, [.int 0, .int 0, .int 0, .int 0, .ref (adh h0 20), .ref (adh h0 21), .ref (adh h0 22), .ref (adh h0 23), .ref (adh h0 24), .ref (adh h0 25), .int 0, .int 0, .int 0, .int 0, .ref (adh h0 26), .ref (adh h0 27), .ref (adh h0 28), .ref (adh h0 29), .int 0, .int 0, .int 0, .null, .null, .null, .long 0]))] [20, 21, 22, 23, 24, 25, 26, 27, 28, 29] [] IZ J0 121 10 432
  refine wc_aload_n hX 0 rfl dX5_init_85 ?_
  refine wc_sipush hX (v := 2232) dX5_init_86 (by decide) ?_
  refine wc_newi hX (k := 30) (N := 2232) kc_30 rfl (fun i => rfl) tb_85 (by decide) (by decide) (by decide) (by decide) dX5_init_89 ?_
  show X 91 [(0, .ref (adh h0 5))] [.ref (adh h0 30), .ref (adh h0 5)] [(adh h0 5, .inr (5, [.int 0, .int 0, .int 0, .int 0, .ref (adh h0 20), .ref (adh h0 21), .ref (adh h0 22), .ref (adh h0 23), .ref (adh h0 24), .ref (adh h0 25), .int 0, .int 0, .int 0, .int 0, .ref (adh h0 26), .ref (adh h0 27), .ref (adh h0 28), .ref (adh h0 29), .int 0, .int 0, .int 0, .null, .null, .null, .long 0]))] [20, 21, 22, 23, 24, 25, 26, 27, 28, 29, 30] [] IZ J0 122 11 2664
  refine wc_putF hX (ci := 5) (C := RX5) (T := TX5) (N := 25) (j := 21) (ty := tyX5) rfl inX5 tyX5_ok nmX5 (by decide) tb_521 rfl trivial rfl rfl rfl (Nat.le_of_ble_eq_true rfl) dX5_init_91 ?_
  show X 94 [(0, .ref (adh h0 5))] [] [(adh h0 5, .inr (5, [.int 0, .int 0, .int 0, .int 0, .ref (adh h0 20), .ref (adh h0 21), .ref (adh h0 22), .ref (adh h0 23), .ref (adh h0 24), .ref (adh h0 25), .int 0, .int 0, .int 0, .int 0, .ref (adh h0 26), .ref (adh h0 27), .ref (adh h0 28), .ref (adh h0 29), .int 0, .int 0, .int 0, .ref (adh h0 30), .null, .null, .long 0]))] [20, 21, 22, 23, 24, 25, 26, 27, 28, 29, 30] [] IZ J0 122 11 2664
  refine wc_aload_n hX 0 rfl dX5_init_94 ?_
  refine wc_bipush hX (v := 6) dX5_init_95 (by decide) ?_
  refine wc_newl hX (k := 31) (N := 6) kc_31 rfl (fun _ => rfl) tb_162 (by decide) (by decide) (by decide) (by decide) dX5_init_97 ?_
  show X 99 [(0, .ref (adh h0 5))] [.ref (adh h0 31), .ref (adh h0 5)] [(adh h0 5, .inr (5, [.int 0, .int 0, .int 0, .int 0, .ref (adh h0 20), .ref (adh h0 21), .ref (adh h0 22), .ref (adh h0 23), .ref (adh h0 24), .ref (adh h0 25), .int 0, .int 0, .int 0, .int 0, .ref (adh h0 26), .ref (adh h0 27), .ref (adh h0 28), .ref (adh h0 29), .int 0, .int 0, .int 0, .ref (adh h0 30), .null, .null, .long 0]))] [20, 21, 22, 23, 24, 25, 26, 27, 28, 29, 30, 31] [] IZ J0 123 12 2670
  refine wc_putF hX (ci := 5) (C := RX5) (T := TX5) (N := 25) (j := 22) (ty := tyX5) rfl inX5 tyX5_ok nmX5 (by decide) tb_522 rfl trivial rfl rfl rfl (Nat.le_of_ble_eq_true rfl) dX5_init_99 ?_
  show X 102 [(0, .ref (adh h0 5))] [] [(adh h0 5, .inr (5, [.int 0, .int 0, .int 0, .int 0, .ref (adh h0 20), .ref (adh h0 21), .ref (adh h0 22), .ref (adh h0 23), .ref (adh h0 24), .ref (adh h0 25), .int 0, .int 0, .int 0, .int 0, .ref (adh h0 26), .ref (adh h0 27), .ref (adh h0 28), .ref (adh h0 29), .int 0, .int 0, .int 0, .ref (adh h0 30), .ref (adh h0 31), .null, .long 0]))] [20, 21, 22, 23, 24, 25, 26, 27, 28, 29, 30, 31] [] IZ J0 123 12 2670
  refine wc_aload_n hX 0 rfl dX5_init_102 ?_
  refine wc_bipush hX (v := 6) dX5_init_103 (by decide) ?_
  refine wc_newl hX (k := 32) (N := 6) kc_32 rfl (fun _ => rfl) tb_162 (by decide) (by decide) (by decide) (by decide) dX5_init_105 ?_
  show X 107 [(0, .ref (adh h0 5))] [.ref (adh h0 32), .ref (adh h0 5)] [(adh h0 5, .inr (5, [.int 0, .int 0, .int 0, .int 0, .ref (adh h0 20), .ref (adh h0 21), .ref (adh h0 22), .ref (adh h0 23), .ref (adh h0 24), .ref (adh h0 25), .int 0, .int 0, .int 0, .int 0, .ref (adh h0 26), .ref (adh h0 27), .ref (adh h0 28), .ref (adh h0 29), .int 0, .int 0, .int 0, .ref (adh h0 30), .ref (adh h0 31), .null, .long 0]))] [20, 21, 22, 23, 24, 25, 26, 27, 28, 29, 30, 31, 32] [] IZ J0 124 13 2676
  refine wc_putF hX (ci := 5) (C := RX5) (T := TX5) (N := 25) (j := 23) (ty := tyX5) rfl inX5 tyX5_ok nmX5 (by decide) tb_523 rfl trivial rfl rfl rfl (Nat.le_of_ble_eq_true rfl) dX5_init_107 ?_
  show X 110 [(0, .ref (adh h0 5))] [] [(adh h0 5, .inr (5, [.int 0, .int 0, .int 0, .int 0, .ref (adh h0 20), .ref (adh h0 21), .ref (adh h0 22), .ref (adh h0 23), .ref (adh h0 24), .ref (adh h0 25), .int 0, .int 0, .int 0, .int 0, .ref (adh h0 26), .ref (adh h0 27), .ref (adh h0 28), .ref (adh h0 29), .int 0, .int 0, .int 0, .ref (adh h0 30), .ref (adh h0 31), .ref (adh h0 32), .long 0]))] [20, 21, 22, 23, 24, 25, 26, 27, 28, 29, 30, 31, 32] [] IZ J0 124 13 2676
  refine wc_iconst hX (v := 0) dX5_init_110 (by decide) ?_
  refine wc_istore_n hX (lv' := [(1, .int 0), (0, .ref (adh h0 5))]) rfl (by decide) dX5_init_111 ?_
  have L : ∀ (n j : Nat) (I : MI), j ≤ 144 → 144 - j < n → mM j I → X 112 [(1, .int (nI j)), (0, .ref (adh h0 5))] [] [(adh h0 5, .inr (5, [.int 0, .int 0, .int 0, .int 0, .ref (adh h0 20), .ref (adh h0 21), .ref (adh h0 22), .ref (adh h0 23), .ref (adh h0 24), .ref (adh h0 25), .int 0, .int 0, .int 0, .int 0, .ref (adh h0 26), .ref (adh h0 27), .ref (adh h0 28), .ref (adh h0 29), .int 0, .int 0, .int 0, .ref (adh h0 30), .ref (adh h0 31), .ref (adh h0 32), .long 0]))] [20, 21, 22, 23, 24, 25, 26, 27, 28, 29, 30, 31, 32] [] I J0 124 13 2676 := by
    intro n
    induction n with
    | zero => exact fun _ _ _ h _ => absurd h (Nat.not_lt_zero _)
    | succ n ih =>
      intro j I hj hn hI
      refine wc_iload_n hX 0 rfl dX5_init_112 ?_
      refine wc_sipush hX (v := 144) dX5_init_113 (by decide) ?_
      refine wc_icmp_ge hX (tgt := 134) dX5_init_116 (by decide) (fun h1 => ?_) (fun h1 => ?_)
      · have hj9 : j = 144 := by
          have h9 := (nI_leI (a := 144) (by omega) (by omega)).mp h1
          omega
        subst hj9
        refine hE 134 _ _ _ _ _ _ _ dX5_init_134 (by decide) (by decide) (fun H h => ?_)
        rw [List.append_nil] at h
        have h2 : va_P D vwCl (hks h0 cy I J0 (5 :: [20, 21, 22, 23, 24, 25, 26, 27, 28, 29, 30, 31, 32])) H := by
          have e1 : I 5 = IZ 5 := hI.1 5 (by decide)
          have e2 : (adh h0 5, hx_ce (adh h0) cy I J0 5) = (adh h0 5, hx_ce (adh h0) cy IZ J0 5) := by rw [hx_ce_eq (I := IZ) (I' := I) e1 rfl]
          show va_P D vwCl ((adh h0 5, hx_ce (adh h0) cy I J0 5) :: hks h0 cy I J0 [20, 21, 22, 23, 24, 25, 26, 27, 28, 29, 30, 31, 32]) H
          rw [e2]
          exact h
        refine hks_conv (I := I) (fun k hk => ?_) h2
        by_cases c : k = 25
        · subst c
          exact Or.inr ⟨144, 0, kc_25, fun i hi => by rw [i0_1 (Or.inl rfl), hI.2 i hi]⟩
        · have c2 : ∀ k ∈ (5 :: [20, 21, 22, 23, 24, 25, 26, 27, 28, 29, 30, 31, 32]), k ≠ 25 → ¬ (k = 25 ∨ 112 ≤ k) := by decide +kernel
          exact Or.inl ((i0_zz (c2 k hk c)).trans (hI.1 k c).symm)
      · have hj1 : j < 144 := Nat.lt_of_not_le (fun z => h1 ((nI_leI (a := 144) (by omega) (by omega)).mpr z))
        refine wc_aload_n hX 1 rfl dX5_init_119 ?_
        refine wc_get hX (ci := 5) (C := RX5) (T := TX5) (N := 25) (j := 9) rfl inX5 (by decide) tb_509 rfl dX5_init_120 ?_
        refine wc_iload_n hX 0 rfl dX5_init_123 ?_
        refine wc_sipush hX (v := 1000) dX5_init_124 (by decide) ?_
        refine wc_iast hX (k := 25) (n := 144) (b := 0) 5 j rfl (by decide +kernel) kc_25 rfl hj1 dX5_init_127 ?_
        refine wc_iinc hX (v := nI (j + 1)) (lv' := [(1, .int (nI (j + 1))), (0, .ref (adh h0 5))]) 0 rfl (nI_1 _) rfl (by decide) dX5_init_128 ?_
        refine wc_goto hX (tgt := 112) dX5_init_131 (by decide) ?_
        exact ih (j + 1) _ (by omega) (by omega) (mM_next hI)
  exact L 145 0 IZ (by omega) (by omega) ⟨fun _ _ => rfl, fun j' h => absurd h (Nat.not_lt_zero _)⟩

set_option maxHeartbeats 1000000 in
theorem k_X4 {l : Launch} {D : va_G} {h0 : Nat} {cy : Nat → ClassId} : Cc l D h0 cy yX4_init cX4_init 1 2 109 943 [] 0 4 [.null, .null, .null, .null] 1 110 [0, 1, 6, 7, 8, 33, 34, 35, 36, 37, 38, 39, 40, 41, 42, 43, 44, 9, 45, 46, 47, 48, 49, 50, 51, 52, 53, 54, 55, 56, 2, 10, 11, 57, 58, 59, 60, 61, 62, 12, 63, 64, 65, 66, 67, 68, 13, 14, 15, 3, 16, 69, 70, 71, 72, 73, 74, 75, 76, 77, 78, 79, 80, 81, 82, 83, 84, 85, 86, 87, 88, 89, 90, 91, 92, 93, 94, 95, 96, 97, 98, 99, 4, 17, 100, 101, 102, 103, 104, 105, 106, 107, 108, 109, 110, 111, 18, 112, 113, 114, 115, 116, 117, 118, 119, 120, 121, 122, 123, 19] I0 J0 := by
  refine cc_start I0 J0 (by decide +kernel) rfl (Nat.le_of_ble_eq_true rfl) (fun X hX hE => ?_)
  show X 0 [(0, .ref (adh h0 0))] [] [(adh h0 0, .inr (4, [.null, .null, .null, .null]))] [] [] I0 J0 1 0 0
  refine wc_aload_n hX 0 rfl dX4_init_0 ?_
  refine wc_obj hX tb_38 tb_39 tb_obj (by decide) (by decide) dX4_init_1 ?_
  refine wc_aload_n hX 0 rfl dX4_init_4 ?_
  refine wc_new hX (C := RX1) (T := TX1) (N := 7) (ci := 1) (k := 1) (ty := tyX1) (fs := [.int 0, .int 0, .int 0, .null, .null, .null, .null]) rfl inX1 tyX1_ok tb_41 tb_42 tb_27 dfX1 rfl (by decide) (by decide) dX4_init_5 ?_
  refine wc_dup hX dX4_init_8 rfl ?_
  refine wc_makeN hX (n := 0) k_X1 rfl tb_44 tb_27 tb_45 ⟨by decide, by decide, by decide +kernel⟩ (by decide) (fun U h => h.2.2) rfl rfl (by decide) (Nat.le_of_ble_eq_true rfl) (by decide) (by decide) (by decide +kernel) (by decide +kernel) (by decide +kernel) dX4_init_9 ?_
  show X 12 [(0, .ref (adh h0 0))] [.ref (adh h0 1), .ref (adh h0 0)] [(adh h0 0, .inr (4, [.null, .null, .null, .null]))] [1, 6, 7, 8, 33, 34, 35, 36, 37, 38, 39, 40, 41, 42, 43, 44, 9, 45, 46, 47, 48, 49, 50, 51, 52, 53, 54, 55, 56] [] I0 J0 30 29 199
  refine wc_putF hX (ci := 4) (C := RX4) (T := TX4) (N := 4) (j := 0) (ty := tyX4) rfl inX4 tyX4_ok nmX4 (by decide) tb_189 rfl trivial rfl rfl rfl (Nat.le_of_ble_eq_true rfl) dX4_init_12 ?_
  show X 15 [(0, .ref (adh h0 0))] [] [(adh h0 0, .inr (4, [.ref (adh h0 1), .null, .null, .null]))] [1, 6, 7, 8, 33, 34, 35, 36, 37, 38, 39, 40, 41, 42, 43, 44, 9, 45, 46, 47, 48, 49, 50, 51, 52, 53, 54, 55, 56] [] I0 J0 30 29 199
  refine wc_aload_n hX 0 rfl dX4_init_15 ?_
  refine wc_new hX (C := RX3) (T := TX3) (N := 10) (ci := 3) (k := 2) (ty := tyX3) (fs := [.null, .null, .null, .null, .null, .null, .null, .int 0, .int 0, .int 0]) rfl inX3 tyX3_ok tb_87 tb_88 tb_28 dfX3 rfl (by decide) (by decide) dX4_init_16 ?_
  refine wc_dup hX dX4_init_19 rfl ?_
  refine wc_aload_n hX 0 rfl dX4_init_20 ?_
  refine wc_get hX (ci := 4) (C := RX4) (T := TX4) (N := 4) (j := 0) rfl inX4 (by decide) tb_189 rfl dX4_init_21 ?_
  refine wc_make hX (n := 1) k_X3 rfl tb_90 tb_28 tb_91 ⟨by decide, by decide, by decide +kernel⟩ (by decide) tb_89 rfl rfl (by decide) (Nat.le_of_ble_eq_true rfl) (by decide) (by decide) (by decide +kernel) (by decide +kernel) (by decide +kernel) dX4_init_24 ?_
  show X 27 [(0, .ref (adh h0 0))] [.ref (adh h0 2), .ref (adh h0 0)] [(adh h0 0, .inr (4, [.ref (adh h0 1), .null, .null, .null]))] [1, 6, 7, 8, 33, 34, 35, 36, 37, 38, 39, 40, 41, 42, 43, 44, 9, 45, 46, 47, 48, 49, 50, 51, 52, 53, 54, 55, 56, 2, 10, 11, 57, 58, 59, 60, 61, 62, 12, 63, 64, 65, 66, 67, 68, 13, 14, 15] [] I0 J0 49 48 282
  refine wc_putF hX (ci := 4) (C := RX4) (T := TX4) (N := 4) (j := 1) (ty := tyX4) rfl inX4 tyX4_ok nmX4 (by decide) tb_190 rfl trivial rfl rfl rfl (Nat.le_of_ble_eq_true rfl) dX4_init_27 ?_
  show X 30 [(0, .ref (adh h0 0))] [] [(adh h0 0, .inr (4, [.ref (adh h0 1), .ref (adh h0 2), .null, .null]))] [1, 6, 7, 8, 33, 34, 35, 36, 37, 38, 39, 40, 41, 42, 43, 44, 9, 45, 46, 47, 48, 49, 50, 51, 52, 53, 54, 55, 56, 2, 10, 11, 57, 58, 59, 60, 61, 62, 12, 63, 64, 65, 66, 67, 68, 13, 14, 15] [] I0 J0 49 48 282
  refine wc_aload_n hX 0 rfl dX4_init_30 ?_
  refine wc_new hX (C := RX2) (T := TX2) (N := 7) (ci := 2) (k := 3) (ty := tyX2) (fs := [.null, .null, .null, .int 0, .int 0, .int 0, .int 0]) rfl inX2 tyX2_ok tb_128 tb_129 tb_29 dfX2 rfl (by decide) (by decide) dX4_init_31 ?_
  refine wc_dup hX dX4_init_34 rfl ?_
  refine wc_aload_n hX 0 rfl dX4_init_35 ?_
  refine wc_get hX (ci := 4) (C := RX4) (T := TX4) (N := 4) (j := 0) rfl inX4 (by decide) tb_189 rfl dX4_init_36 ?_
  refine wc_aload_n hX 0 rfl dX4_init_39 ?_
  refine wc_get hX (ci := 4) (C := RX4) (T := TX4) (N := 4) (j := 1) rfl inX4 (by decide) tb_190 rfl dX4_init_40 ?_
  refine wc_make hX (n := 2) k_X2 rfl tb_131 tb_29 tb_132 ⟨by decide, by decide, by decide +kernel⟩ (by decide) tb_130 rfl rfl (by decide) (Nat.le_of_ble_eq_true rfl) (by decide) (by decide) (by decide +kernel) (by decide +kernel) (by decide +kernel) dX4_init_43 ?_
  show X 46 [(0, .ref (adh h0 0))] [.ref (adh h0 3), .ref (adh h0 0)] [(adh h0 0, .inr (4, [.ref (adh h0 1), .ref (adh h0 2), .null, .null]))] [1, 6, 7, 8, 33, 34, 35, 36, 37, 38, 39, 40, 41, 42, 43, 44, 9, 45, 46, 47, 48, 49, 50, 51, 52, 53, 54, 55, 56, 2, 10, 11, 57, 58, 59, 60, 61, 62, 12, 63, 64, 65, 66, 67, 68, 13, 14, 15, 3, 16, 69, 70, 71, 72, 73, 74, 75, 76, 77, 78, 79, 80, 81, 82, 83, 84, 85, 86, 87, 88, 89, 90, 91, 92, 93, 94, 95, 96, 97, 98, 99] [] I0 J0 82 81 692
  refine wc_putF hX (ci := 4) (C := RX4) (T := TX4) (N := 4) (j := 2) (ty := tyX4) rfl inX4 tyX4_ok nmX4 (by decide) tb_191 rfl trivial rfl rfl rfl (Nat.le_of_ble_eq_true rfl) dX4_init_46 ?_
  show X 49 [(0, .ref (adh h0 0))] [] [(adh h0 0, .inr (4, [.ref (adh h0 1), .ref (adh h0 2), .ref (adh h0 3), .null]))] [1, 6, 7, 8, 33, 34, 35, 36, 37, 38, 39, 40, 41, 42, 43, 44, 9, 45, 46, 47, 48, 49, 50, 51, 52, 53, 54, 55, 56, 2, 10, 11, 57, 58, 59, 60, 61, 62, 12, 63, 64, 65, 66, 67, 68, 13, 14, 15, 3, 16, 69, 70, 71, 72, 73, 74, 75, 76, 77, 78, 79, 80, 81, 82, 83, 84, 85, 86, 87, 88, 89, 90, 91, 92, 93, 94, 95, 96, 97, 98, 99] [] I0 J0 82 81 692
  refine wc_aload_n hX 0 rfl dX4_init_49 ?_
  refine wc_new hX (C := RX0) (T := TX0) (N := 5) (ci := 0) (k := 4) (ty := tyX0) (fs := [.null, .int 0, .null, .null, .null]) rfl inX0 tyX0_ok tb_163 tb_164 tb_30 dfX0 rfl (by decide) (by decide) dX4_init_50 ?_
  refine wc_dup hX dX4_init_53 rfl ?_
  refine wc_aload_n hX 0 rfl dX4_init_54 ?_
  refine wc_get hX (ci := 4) (C := RX4) (T := TX4) (N := 4) (j := 0) rfl inX4 (by decide) tb_189 rfl dX4_init_55 ?_
  refine wc_make hX (n := 1) k_X0 rfl tb_166 tb_30 tb_167 ⟨by decide, by decide, by decide +kernel⟩ (by decide) tb_165 rfl rfl (by decide) (Nat.le_of_ble_eq_true rfl) (by decide) (by decide) (by decide +kernel) (by decide +kernel) (by decide +kernel) dX4_init_58 ?_
  show X 61 [(0, .ref (adh h0 0))] [.ref (adh h0 4), .ref (adh h0 0)] [(adh h0 0, .inr (4, [.ref (adh h0 1), .ref (adh h0 2), .ref (adh h0 3), .null]))] [1, 6, 7, 8, 33, 34, 35, 36, 37, 38, 39, 40, 41, 42, 43, 44, 9, 45, 46, 47, 48, 49, 50, 51, 52, 53, 54, 55, 56, 2, 10, 11, 57, 58, 59, 60, 61, 62, 12, 63, 64, 65, 66, 67, 68, 13, 14, 15, 3, 16, 69, 70, 71, 72, 73, 74, 75, 76, 77, 78, 79, 80, 81, 82, 83, 84, 85, 86, 87, 88, 89, 90, 91, 92, 93, 94, 95, 96, 97, 98, 99, 4, 17, 100, 101, 102, 103, 104, 105, 106, 107, 108, 109, 110, 111, 18, 112, 113, 114, 115, 116, 117, 118, 119, 120, 121, 122, 123, 19] [] I0 J0 110 109 943
  refine wc_putF hX (ci := 4) (C := RX4) (T := TX4) (N := 4) (j := 3) (ty := tyX4) rfl inX4 tyX4_ok nmX4 (by decide) tb_192 rfl trivial rfl rfl rfl (Nat.le_of_ble_eq_true rfl) dX4_init_61 ?_
  show X 64 [(0, .ref (adh h0 0))] [] [(adh h0 0, .inr (4, [.ref (adh h0 1), .ref (adh h0 2), .ref (adh h0 3), .ref (adh h0 4)]))] [1, 6, 7, 8, 33, 34, 35, 36, 37, 38, 39, 40, 41, 42, 43, 44, 9, 45, 46, 47, 48, 49, 50, 51, 52, 53, 54, 55, 56, 2, 10, 11, 57, 58, 59, 60, 61, 62, 12, 63, 64, 65, 66, 67, 68, 13, 14, 15, 3, 16, 69, 70, 71, 72, 73, 74, 75, 76, 77, 78, 79, 80, 81, 82, 83, 84, 85, 86, 87, 88, 89, 90, 91, 92, 93, 94, 95, 96, 97, 98, 99, 4, 17, 100, 101, 102, 103, 104, 105, 106, 107, 108, 109, 110, 111, 18, 112, 113, 114, 115, 116, 117, 118, 119, 120, 121, 122, 123, 19] [] I0 J0 110 109 943
  exact hE 64 _ _ _ _ _ _ _ dX4_init_64 (by decide) (by decide) (fun H h => by rw [List.append_nil] at h; exact h)


/-! the constructors' contracts -/
def I0 : MI := fun k _ => if k = 25 ∨ 112 ≤ k then 1000 else 0
def J0 : MJ := fun _ _ => 0
def IZ : MI := fun _ _ => 0
theorem i0_z {k i : Nat} (h : ¬ (k = 25 ∨ 112 ≤ k)) : I0 k i = 0 := if_neg h
theorem tb_obj : Cond.code Lib.objectInit ⟨#[0xb1]⟩ 1 none ∈ hx_ws := tb_40
theorem adh_row {h0 b n N : Nat} (e : ∀ j, j < N → hx_of.getD (b + j) 0 = n + 1 + j) : ∀ j, j < N → adh h0 (b + j) = h0 + n + 1 + j := fun j hj => by
  have := e j hj
  unfold adh
  omega
theorem dfX0 : ∀ j, j < 5 → defaultValue (tyX0 j) = vp_V [.null, .int 0, .null, .null, .null] j := fun j hj => by
  match j, hj with
  | 0, _ => rfl
  | 1, _ => rfl
  | 2, _ => rfl
  | 3, _ => rfl
  | 4, _ => rfl
  | j + 5, h => omega
theorem dfX1 : ∀ j, j < 7 → defaultValue (tyX1 j) = vp_V [.int 0, .int 0, .int 0, .null, .null, .null, .null] j := fun j hj => by
  match j, hj with
  | 0, _ => rfl
  | 1, _ => rfl
  | 2, _ => rfl
  | 3, _ => rfl
  | 4, _ => rfl
  | 5, _ => rfl
  | 6, _ => rfl
  | j + 7, h => omega
theorem dfX2 : ∀ j, j < 7 → defaultValue (tyX2 j) = vp_V [.null, .null, .null, .int 0, .int 0, .int 0, .int 0] j := fun j hj => by
  match j, hj with
  | 0, _ => rfl
  | 1, _ => rfl
  | 2, _ => rfl
  | 3, _ => rfl
  | 4, _ => rfl
  | 5, _ => rfl
  | 6, _ => rfl
  | j + 7, h => omega
theorem dfX3 : ∀ j, j < 10 → defaultValue (tyX3 j) = vp_V [.null, .null, .null, .null, .null, .null, .null, .int 0, .int 0, .int 0] j := fun j hj => by
  match j, hj with
  | 0, _ => rfl
  | 1, _ => rfl
  | 2, _ => rfl
  | 3, _ => rfl
  | 4, _ => rfl
  | 5, _ => rfl
  | 6, _ => rfl
  | 7, _ => rfl
  | 8, _ => rfl
  | 9, _ => rfl
  | j + 10, h => omega
theorem dfX4 : ∀ j, j < 4 → defaultValue (tyX4 j) = vp_V [.null, .null, .null, .null] j := fun j hj => by
  match j, hj with
  | 0, _ => rfl
  | 1, _ => rfl
  | 2, _ => rfl
  | 3, _ => rfl
  | j + 4, h => omega
theorem dfX5 : ∀ j, j < 25 → defaultValue (tyX5 j) = vp_V [.int 0, .int 0, .int 0, .int 0, .null, .null, .null, .null, .null, .null, .int 0, .int 0, .int 0, .int 0, .null, .null, .null, .null, .int 0, .int 0, .int 0, .null, .null, .null, .long 0] j := fun j hj => by
  match j, hj with
  | 0, _ => rfl
  | 1, _ => rfl
  | 2, _ => rfl
  | 3, _ => rfl
  | 4, _ => rfl
  | 5, _ => rfl
  | 6, _ => rfl
  | 7, _ => rfl
  | 8, _ => rfl
  | 9, _ => rfl
  | 10, _ => rfl
  | 11, _ => rfl
  | 12, _ => rfl
  | 13, _ => rfl
  | 14, _ => rfl
  | 15, _ => rfl
  | 16, _ => rfl
  | 17, _ => rfl
  | 18, _ => rfl
  | 19, _ => rfl
  | 20, _ => rfl
  | 21, _ => rfl
  | 22, _ => rfl
  | 23, _ => rfl
  | 24, _ => rfl
  | j + 25, h => omega
set_option maxHeartbeats 1000000 in
theorem k_X1 {l : Launch} {D : va_G} {h0 : Nat} {cy : Nat → ClassId} : Cc l D h0 cy yX1_init cX1_init 1 1 28 192 [] 1 1 [.int 0, .int 0, .int 0, .null, .null, .null, .null] 2 30 [1, 6, 7, 8, 33, 34, 35, 36, 37, 38, 39, 40, 41, 42, 43, 44, 9, 45, 46, 47, 48, 49, 50, 51, 52, 53, 54, 55, 56] I0 J0 := by
  refine cc_start I0 J0 (by decide +kernel) rfl (Nat.le_of_ble_eq_true rfl) (fun X hX hE => ?_)
  show X 0 [(0, .ref (adh h0 1))] [] [(adh h0 1, .inr (1, [.int 0, .int 0, .int 0, .null, .null, .null, .null]))] [] [] I0 J0 2 0 0
  refine wc_aload_n hX 0 rfl dX1_init_0 ?_
  refine wc_obj hX tb_46 tb_39 tb_obj (by decide) (by decide) dX1_init_1 ?_
  refine wc_aload_n hX 0 rfl dX1_init_4 ?_
  refine wc_bipush hX (v := 12) dX1_init_5 (by decide) ?_
  refine wc_newi hX (k := 6) (N := 12) kc_6 rfl (fun i => i0_z (by decide)) tb_85 (by decide) (by decide) (by decide) (by decide) dX1_init_7 ?_
  show X 9 [(0, .ref (adh h0 1))] [.ref (adh h0 6), .ref (adh h0 1)] [(adh h0 1, .inr (1, [.int 0, .int 0, .int 0, .null, .null, .null, .null]))] [6] [] I0 J0 3 1 12
  refine wc_putF hX (ci := 1) (C := RX1) (T := TX1) (N := 7) (j := 3) (ty := tyX1) rfl inX1 tyX1_ok nmX1 (by decide) tb_58 rfl trivial rfl rfl rfl (Nat.le_of_ble_eq_true rfl) dX1_init_9 ?_
  show X 12 [(0, .ref (adh h0 1))] [] [(adh h0 1, .inr (1, [.int 0, .int 0, .int 0, .ref (adh h0 6), .null, .null, .null]))] [6] [] I0 J0 3 1 12
  refine wc_aload_n hX 0 rfl dX1_init_12 ?_
  refine wc_bipush hX (v := 12) dX1_init_13 (by decide) ?_
  refine wc_newz hX (k := 7) (N := 12) kc_7 rfl (fun i => i0_z (by decide)) tb_86 (by decide) (by decide) (by decide) (by decide) dX1_init_15 ?_
  show X 17 [(0, .ref (adh h0 1))] [.ref (adh h0 7), .ref (adh h0 1)] [(adh h0 1, .inr (1, [.int 0, .int 0, .int 0, .ref (adh h0 6), .null, .null, .null]))] [6, 7] [] I0 J0 4 2 24
  refine wc_putF hX (ci := 1) (C := RX1) (T := TX1) (N := 7) (j := 4) (ty := tyX1) rfl inX1 tyX1_ok nmX1 (by decide) tb_61 rfl trivial rfl rfl rfl (Nat.le_of_ble_eq_true rfl) dX1_init_17 ?_
  show X 20 [(0, .ref (adh h0 1))] [] [(adh h0 1, .inr (1, [.int 0, .int 0, .int 0, .ref (adh h0 6), .ref (adh h0 7), .null, .null]))] [6, 7] [] I0 J0 4 2 24
  refine wc_aload_n hX 0 rfl dX1_init_20 ?_
  refine wc_bipush hX (v := 12) dX1_init_21 (by decide) ?_
  refine wc_bipush hX (v := 6) dX1_init_23 (by decide) ?_
  refine wc_grid4 hX (k := 8) (N := 12) (b := 33) (K := 6) kc_8 (fun j hj => kd_33 hj) rfl (adh_row (by decide +kernel)) (fun j i hj => i0_z (by omega)) tb_47 tb_85 (by decide) (by decide) (by decide) (by decide) (by decide) (by decide) dX1_init_25 ?_
  show X 29 [(0, .ref (adh h0 1))] [.ref (adh h0 8), .ref (adh h0 1)] [(adh h0 1, .inr (1, [.int 0, .int 0, .int 0, .ref (adh h0 6), .ref (adh h0 7), .null, .null]))] [6, 7, 8, 33, 34, 35, 36, 37, 38, 39, 40, 41, 42, 43, 44] [] I0 J0 17 15 108
  refine wc_putF hX (ci := 1) (C := RX1) (T := TX1) (N := 7) (j := 5) (ty := tyX1) rfl inX1 tyX1_ok nmX1 (by decide) tb_64 rfl trivial rfl rfl rfl (Nat.le_of_ble_eq_true rfl) dX1_init_29 ?_
  show X 32 [(0, .ref (adh h0 1))] [] [(adh h0 1, .inr (1, [.int 0, .int 0, .int 0, .ref (adh h0 6), .ref (adh h0 7), .ref (adh h0 8), .null]))] [6, 7, 8, 33, 34, 35, 36, 37, 38, 39, 40, 41, 42, 43, 44] [] I0 J0 17 15 108
  refine wc_aload_n hX 0 rfl dX1_init_32 ?_
  refine wc_bipush hX (v := 12) dX1_init_33 (by decide) ?_
  refine wc_bipush hX (v := 6) dX1_init_35 (by decide) ?_
  refine wc_grid4 hX (k := 9) (N := 12) (b := 45) (K := 6) kc_9 (fun j hj => kd_45 hj) rfl (adh_row (by decide +kernel)) (fun j i hj => i0_z (by omega)) tb_47 tb_85 (by decide) (by decide) (by decide) (by decide) (by decide) (by decide) dX1_init_37 ?_
  show X 41 [(0, .ref (adh h0 1))] [.ref (adh h0 9), .ref (adh h0 1)] [(adh h0 1, .inr (1, [.int 0, .int 0, .int 0, .ref (adh h0 6), .ref (adh h0 7), .ref (adh h0 8), .null]))] [6, 7, 8, 33, 34, 35, 36, 37, 38, 39, 40, 41, 42, 43, 44, 9, 45, 46, 47, 48, 49, 50, 51, 52, 53, 54, 55, 56] [] I0 J0 30 28 192
  refine wc_putF hX (ci := 1) (C := RX1) (T := TX1) (N := 7) (j := 6) (ty := tyX1) rfl inX1 tyX1_ok nmX1 (by decide) tb_67 rfl trivial rfl rfl rfl (Nat.le_of_ble_eq_true rfl) dX1_init_41 ?_
  show X 44 [(0, .ref (adh h0 1))] [] [(adh h0 1, .inr (1, [.int 0, .int 0, .int 0, .ref (adh h0 6), .ref (adh h0 7), .ref (adh h0 8), .ref (adh h0 9)]))] [6, 7, 8, 33, 34, 35, 36, 37, 38, 39, 40, 41, 42, 43, 44, 9, 45, 46, 47, 48, 49, 50, 51, 52, 53, 54, 55, 56] [] I0 J0 30 28 192
  exact hE 44 _ _ _ _ _ _ _ dX1_init_44 (by decide) (by decide) (fun H h => by rw [List.append_nil] at h; exact h)

set_option maxHeartbeats 1000000 in
theorem k_X3 {l : Launch} {D : va_G} {h0 : Nat} {cy : Nat → ClassId} : Cc l D h0 cy yX3_init cX3_init 2 1 18 73 [.ref (adh h0 1)] 2 3 [.null, .null, .null, .null, .null, .null, .null, .int 0, .int 0, .int 0] 31 49 [2, 10, 11, 57, 58, 59, 60, 61, 62, 12, 63, 64, 65, 66, 67, 68, 13, 14, 15] I0 J0 := by
  refine cc_start I0 J0 (by decide +kernel) rfl (Nat.le_of_ble_eq_true rfl) (fun X hX hE => ?_)
  show X 0 [(0, .ref (adh h0 2)), (1, .ref (adh h0 1))] [] [(adh h0 2, .inr (3, [.null, .null, .null, .null, .null, .null, .null, .int 0, .int 0, .int 0]))] [] [] I0 J0 31 0 0
  refine wc_aload_n hX 0 rfl dX3_init_0 ?_
  refine wc_obj hX tb_92 tb_39 tb_obj (by decide) (by decide) dX3_init_1 ?_
  refine wc_aload_n hX 0 rfl dX3_init_4 ?_
  refine wc_bipush hX (v := 6) dX3_init_5 (by decide) ?_
  refine wc_newi hX (k := 10) (N := 6) kc_10 rfl (fun i => i0_z (by decide)) tb_85 (by decide) (by decide) (by decide) (by decide) dX3_init_7 ?_
  show X 9 [(0, .ref (adh h0 2)), (1, .ref (adh h0 1))] [.ref (adh h0 10), .ref (adh h0 2)] [(adh h0 2, .inr (3, [.null, .null, .null, .null, .null, .null, .null, .int 0, .int 0, .int 0]))] [10] [] I0 J0 32 1 6
  refine wc_putF hX (ci := 3) (C := RX3) (T := TX3) (N := 10) (j := 1) (ty := tyX3) rfl inX3 tyX3_ok nmX3 (by decide) tb_95 rfl trivial rfl rfl rfl (Nat.le_of_ble_eq_true rfl) dX3_init_9 ?_
  show X 12 [(0, .ref (adh h0 2)), (1, .ref (adh h0 1))] [] [(adh h0 2, .inr (3, [.null, .ref (adh h0 10), .null, .null, .null, .null, .null, .int 0, .int 0, .int 0]))] [10] [] I0 J0 32 1 6
  refine wc_aload_n hX 0 rfl dX3_init_12 ?_
  refine wc_bipush hX (v := 6) dX3_init_13 (by decide) ?_
  refine wc_iconst hX (v := 3) dX3_init_15 (by decide) ?_
  refine wc_grid4 hX (k := 11) (N := 6) (b := 57) (K := 3) kc_11 (fun j hj => kd_57 hj) rfl (adh_row (by decide +kernel)) (fun j i hj => i0_z (by omega)) tb_93 tb_85 (by decide) (by decide) (by decide) (by decide) (by decide) (by decide) dX3_init_16 ?_
  show X 20 [(0, .ref (adh h0 2)), (1, .ref (adh h0 1))] [.ref (adh h0 11), .ref (adh h0 2)] [(adh h0 2, .inr (3, [.null, .ref (adh h0 10), .null, .null, .null, .null, .null, .int 0, .int 0, .int 0]))] [10, 11, 57, 58, 59, 60, 61, 62] [] I0 J0 39 8 30
  refine wc_putF hX (ci := 3) (C := RX3) (T := TX3) (N := 10) (j := 2) (ty := tyX3) rfl inX3 tyX3_ok nmX3 (by decide) tb_96 rfl trivial rfl rfl rfl (Nat.le_of_ble_eq_true rfl) dX3_init_20 ?_
  show X 23 [(0, .ref (adh h0 2)), (1, .ref (adh h0 1))] [] [(adh h0 2, .inr (3, [.null, .ref (adh h0 10), .ref (adh h0 11), .null, .null, .null, .null, .int 0, .int 0, .int 0]))] [10, 11, 57, 58, 59, 60, 61, 62] [] I0 J0 39 8 30
  refine wc_aload_n hX 0 rfl dX3_init_23 ?_
  refine wc_bipush hX (v := 6) dX3_init_24 (by decide) ?_
  refine wc_iconst hX (v := 3) dX3_init_26 (by decide) ?_
  refine wc_grid4 hX (k := 12) (N := 6) (b := 63) (K := 3) kc_12 (fun j hj => kd_63 hj) rfl (adh_row (by decide +kernel)) (fun j i hj => i0_z (by omega)) tb_93 tb_85 (by decide) (by decide) (by decide) (by decide) (by decide) (by decide) dX3_init_27 ?_
  show X 31 [(0, .ref (adh h0 2)), (1, .ref (adh h0 1))] [.ref (adh h0 12), .ref (adh h0 2)] [(adh h0 2, .inr (3, [.null, .ref (adh h0 10), .ref (adh h0 11), .null, .null, .null, .null, .int 0, .int 0, .int 0]))] [10, 11, 57, 58, 59, 60, 61, 62, 12, 63, 64, 65, 66, 67, 68] [] I0 J0 46 15 54
  refine wc_putF hX (ci := 3) (C := RX3) (T := TX3) (N := 10) (j := 3) (ty := tyX3) rfl inX3 tyX3_ok nmX3 (by decide) tb_97 rfl trivial rfl rfl rfl (Nat.le_of_ble_eq_true rfl) dX3_init_31 ?_
  show X 34 [(0, .ref (adh h0 2)), (1, .ref (adh h0 1))] [] [(adh h0 2, .inr (3, [.null, .ref (adh h0 10), .ref (adh h0 11), .ref (adh h0 12), .null, .null, .null, .int 0, .int 0, .int 0]))] [10, 11, 57, 58, 59, 60, 61, 62, 12, 63, 64, 65, 66, 67, 68] [] I0 J0 46 15 54
  refine wc_aload_n hX 0 rfl dX3_init_34 ?_
  refine wc_bipush hX (v := 7) dX3_init_35 (by decide) ?_
  refine wc_newi hX (k := 13) (N := 7) kc_13 rfl (fun i => i0_z (by decide)) tb_85 (by decide) (by decide) (by decide) (by decide) dX3_init_37 ?_
  show X 39 [(0, .ref (adh h0 2)), (1, .ref (adh h0 1))] [.ref (adh h0 13), .ref (adh h0 2)] [(adh h0 2, .inr (3, [.null, .ref (adh h0 10), .ref (adh h0 11), .ref (adh h0 12), .null, .null, .null, .int 0, .int 0, .int 0]))] [10, 11, 57, 58, 59, 60, 61, 62, 12, 63, 64, 65, 66, 67, 68, 13] [] I0 J0 47 16 61
  refine wc_putF hX (ci := 3) (C := RX3) (T := TX3) (N := 10) (j := 4) (ty := tyX3) rfl inX3 tyX3_ok nmX3 (by decide) tb_98 rfl trivial rfl rfl rfl (Nat.le_of_ble_eq_true rfl) dX3_init_39 ?_
  show X 42 [(0, .ref (adh h0 2)), (1, .ref (adh h0 1))] [] [(adh h0 2, .inr (3, [.null, .ref (adh h0 10), .ref (adh h0 11), .ref (adh h0 12), .ref (adh h0 13), .null, .null, .int 0, .int 0, .int 0]))] [10, 11, 57, 58, 59, 60, 61, 62, 12, 63, 64, 65, 66, 67, 68, 13] [] I0 J0 47 16 61
  refine wc_aload_n hX 0 rfl dX3_init_42 ?_
  refine wc_bipush hX (v := 6) dX3_init_43 (by decide) ?_
  refine wc_newi hX (k := 14) (N := 6) kc_14 rfl (fun i => i0_z (by decide)) tb_85 (by decide) (by decide) (by decide) (by decide) dX3_init_45 ?_
  show X 47 [(0, .ref (adh h0 2)), (1, .ref (adh h0 1))] [.ref (adh h0 14), .ref (adh h0 2)] [(adh h0 2, .inr (3, [.null, .ref (adh h0 10), .ref (adh h0 11), .ref (adh h0 12), .ref (adh h0 13), .null, .null, .int 0, .int 0, .int 0]))] [10, 11, 57, 58, 59, 60, 61, 62, 12, 63, 64, 65, 66, 67, 68, 13, 14] [] I0 J0 48 17 67
  refine wc_putF hX (ci := 3) (C := RX3) (T := TX3) (N := 10) (j := 5) (ty := tyX3) rfl inX3 tyX3_ok nmX3 (by decide) tb_99 rfl trivial rfl rfl rfl (Nat.le_of_ble_eq_true rfl) dX3_init_47 ?_
  show X 50 [(0, .ref (adh h0 2)), (1, .ref (adh h0 1))] [] [(adh h0 2, .inr (3, [.null, .ref (adh h0 10), .ref (adh h0 11), .ref (adh h0 12), .ref (adh h0 13), .ref (adh h0 14), .null, .int 0, .int 0, .int 0]))] [10, 11, 57, 58, 59, 60, 61, 62, 12, 63, 64, 65, 66, 67, 68, 13, 14] [] I0 J0 48 17 67
  refine wc_aload_n hX 0 rfl dX3_init_50 ?_
  refine wc_bipush hX (v := 6) dX3_init_51 (by decide) ?_
  refine wc_newi hX (k := 15) (N := 6) kc_15 rfl (fun i => i0_z (by decide)) tb_85 (by decide) (by decide) (by decide) (by decide) dX3_init_53 ?_
  show X 55 [(0, .ref (adh h0 2)), (1, .ref (adh h0 1))] [.ref (adh h0 15), .ref (adh h0 2)] [(adh h0 2, .inr (3, [.null, .ref (adh h0 10), .ref (adh h0 11), .ref (adh h0 12), .ref (adh h0 13), .ref (adh h0 14), .null, .int 0, .int 0, .int 0]))] [10, 11, 57, 58, 59, 60, 61, 62, 12, 63, 64, 65, 66, 67, 68, 13, 14, 15] [] I0 J0 49 18 73
  refine wc_putF hX (ci := 3) (C := RX3) (T := TX3) (N := 10) (j := 6) (ty := tyX3) rfl inX3 tyX3_ok nmX3 (by decide) tb_100 rfl trivial rfl rfl rfl (Nat.le_of_ble_eq_true rfl) dX3_init_55 ?_
  show X 58 [(0, .ref (adh h0 2)), (1, .ref (adh h0 1))] [] [(adh h0 2, .inr (3, [.null, .ref (adh h0 10), .ref (adh h0 11), .ref (adh h0 12), .ref (adh h0 13), .ref (adh h0 14), .ref (adh h0 15), .int 0, .int 0, .int 0]))] [10, 11, 57, 58, 59, 60, 61, 62, 12, 63, 64, 65, 66, 67, 68, 13, 14, 15] [] I0 J0 49 18 73
  refine wc_aload_n hX 0 rfl dX3_init_58 ?_
  refine wc_aload_n hX 1 rfl dX3_init_59 ?_
  refine wc_putF hX (ci := 3) (C := RX3) (T := TX3) (N := 10) (j := 0) (ty := tyX3) rfl inX3 tyX3_ok nmX3 (by decide) tb_94 rfl trivial rfl rfl rfl (Nat.le_of_ble_eq_true rfl) dX3_init_60 ?_
  show X 63 [(0, .ref (adh h0 2)), (1, .ref (adh h0 1))] [] [(adh h0 2, .inr (3, [.ref (adh h0 1), .ref (adh h0 10), .ref (adh h0 11), .ref (adh h0 12), .ref (adh h0 13), .ref (adh h0 14), .ref (adh h0 15), .int 0, .int 0, .int 0]))] [10, 11, 57, 58, 59, 60, 61, 62, 12, 63, 64, 65, 66, 67, 68, 13, 14, 15] [] I0 J0 49 18 73
  exact hE 63 _ _ _ _ _ _ _ dX3_init_63 (by decide) (by decide) (fun H h => by rw [List.append_nil] at h; exact h)

set_option maxHeartbeats 1000000 in
theorem k_X2 {l : Launch} {D : va_G} {h0 : Nat} {cy : Nat → ClassId} : Cc l D h0 cy yX2_init cX2_init 3 1 32 403 [.ref (adh h0 1), .ref (adh h0 2)] 3 2 [.null, .null, .null, .int 0, .int 0, .int 0, .int 0] 50 82 [3, 16, 69, 70, 71, 72, 73, 74, 75, 76, 77, 78, 79, 80, 81, 82, 83, 84, 85, 86, 87, 88, 89, 90, 91, 92, 93, 94, 95, 96, 97, 98, 99] I0 J0 := by
  refine cc_start I0 J0 (by decide +kernel) rfl (Nat.le_of_ble_eq_true rfl) (fun X hX hE => ?_)
  show X 0 [(0, .ref (adh h0 3)), (1, .ref (adh h0 1)), (2, .ref (adh h0 2))] [] [(adh h0 3, .inr (2, [.null, .null, .null, .int 0, .int 0, .int 0, .int 0]))] [] [] I0 J0 50 0 0
  refine wc_aload_n hX 0 rfl dX2_init_0 ?_
  refine wc_obj hX tb_133 tb_39 tb_obj (by decide) (by decide) dX2_init_1 ?_
  refine wc_aload_n hX 0 rfl dX2_init_4 ?_
  refine wc_bipush hX (v := 31) dX2_init_5 (by decide) ?_
  refine wc_bipush hX (v := 12) dX2_init_7 (by decide) ?_
  refine wc_grid5 hX (k := 16) (N := 31) (b := 69) (K := 12) kc_16 (fun j hj => kd_69 hj) rfl (adh_row (by decide +kernel)) (fun _ _ _ => rfl) tb_134 tb_162 (by decide) (by decide) (by decide) (by decide) (by decide) (by decide) dX2_init_9 ?_
  show X 13 [(0, .ref (adh h0 3)), (1, .ref (adh h0 1)), (2, .ref (adh h0 2))] [.ref (adh h0 16), .ref (adh h0 3)] [(adh h0 3, .inr (2, [.null, .null, .null, .int 0, .int 0, .int 0, .int 0]))] [16, 69, 70, 71, 72, 73, 74, 75, 76, 77, 78, 79, 80, 81, 82, 83, 84, 85, 86, 87, 88, 89, 90, 91, 92, 93, 94, 95, 96, 97, 98, 99] [] I0 J0 82 32 403
  refine wc_putF hX (ci := 2) (C := RX2) (T := TX2) (N := 7) (j := 2) (ty := tyX2) rfl inX2 tyX2_ok nmX2 (by decide) tb_138 rfl trivial rfl rfl rfl (Nat.le_of_ble_eq_true rfl) dX2_init_13 ?_
  show X 16 [(0, .ref (adh h0 3)), (1, .ref (adh h0 1)), (2, .ref (adh h0 2))] [] [(adh h0 3, .inr (2, [.null, .null, .ref (adh h0 16), .int 0, .int 0, .int 0, .int 0]))] [16, 69, 70, 71, 72, 73, 74, 75, 76, 77, 78, 79, 80, 81, 82, 83, 84, 85, 86, 87, 88, 89, 90, 91, 92, 93, 94, 95, 96, 97, 98, 99] [] I0 J0 82 32 403
  refine wc_aload_n hX 0 rfl dX2_init_16 ?_
  refine wc_iconst hX (v := 0) dX2_init_17 (by decide) ?_
  refine wc_put hX (ci := 2) (C := RX2) (T := TX2) (N := 7) (j := 5) (ty := tyX2) rfl inX2 tyX2_ok nmX2 (by decide) tb_143 rfl rfl rfl (Nat.le_of_ble_eq_true rfl) dX2_init_18 ?_
  show X 21 [(0, .ref (adh h0 3)), (1, .ref (adh h0 1)), (2, .ref (adh h0 2))] [] [(adh h0 3, .inr (2, [.null, .null, .ref (adh h0 16), .int 0, .int 0, .int 0, .int 0]))] [16, 69, 70, 71, 72, 73, 74, 75, 76, 77, 78, 79, 80, 81, 82, 83, 84, 85, 86, 87, 88, 89, 90, 91, 92, 93, 94, 95, 96, 97, 98, 99] [] I0 J0 82 32 403
  refine wc_aload_n hX 0 rfl dX2_init_21 ?_
  refine wc_aload_n hX 1 rfl dX2_init_22 ?_
  refine wc_putF hX (ci := 2) (C := RX2) (T := TX2) (N := 7) (j := 0) (ty := tyX2) rfl inX2 tyX2_ok nmX2 (by decide) tb_136 rfl trivial rfl rfl rfl (Nat.le_of_ble_eq_true rfl) dX2_init_23 ?_
  show X 26 [(0, .ref (adh h0 3)), (1, .ref (adh h0 1)), (2, .ref (adh h0 2))] [] [(adh h0 3, .inr (2, [.ref (adh h0 1), .null, .ref (adh h0 16), .int 0, .int 0, .int 0, .int 0]))] [16, 69, 70, 71, 72, 73, 74, 75, 76, 77, 78, 79, 80, 81, 82, 83, 84, 85, 86, 87, 88, 89, 90, 91, 92, 93, 94, 95, 96, 97, 98, 99] [] I0 J0 82 32 403
  refine wc_aload_n hX 0 rfl dX2_init_26 ?_
  refine wc_aload_n hX 2 rfl dX2_init_27 ?_
  refine wc_putF hX (ci := 2) (C := RX2) (T := TX2) (N := 7) (j := 1) (ty := tyX2) rfl inX2 tyX2_ok nmX2 (by decide) tb_137 rfl trivial rfl rfl rfl (Nat.le_of_ble_eq_true rfl) dX2_init_28 ?_
  show X 31 [(0, .ref (adh h0 3)), (1, .ref (adh h0 1)), (2, .ref (adh h0 2))] [] [(adh h0 3, .inr (2, [.ref (adh h0 1), .ref (adh h0 2), .ref (adh h0 16), .int 0, .int 0, .int 0, .int 0]))] [16, 69, 70, 71, 72, 73, 74, 75, 76, 77, 78, 79, 80, 81, 82, 83, 84, 85, 86, 87, 88, 89, 90, 91, 92, 93, 94, 95, 96, 97, 98, 99] [] I0 J0 82 32 403
  exact hE 31 _ _ _ _ _ _ _ dX2_init_31 (by decide) (by decide) (fun H h => by rw [List.append_nil] at h; exact h)


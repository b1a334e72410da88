/-! the law's body, case by case -/
def Sc (X : HX) (b L : Nat) (xs : Nat → Int32) : Prop :=
  (∀ (pc j : Nat) (lv : List (Nat × Value)) (st : List Value) (I : MI) (J : MJ), j < L → decode cL_law pc = .ok (.iaload, 1) → X (pc + 1) lv (.int (xs j) :: st) I J → X pc lv (.int (nI j) :: .ref b :: st) I J) ∧
  (∀ (pc : Nat) (lv : List (Nat × Value)) (st : List Value) (I : MI) (J : MJ), decode cL_law pc = .ok (.arraylength, 1) → X (pc + 1) lv (.int (nI L) :: st) I J → X pc lv (.ref b :: st) I J) ∧
  (∀ (pc : Nat) (lv : List (Nat × Value)) (I : MI) (J : MJ), decode cL_law pc = .ok (.ireturn, 1) → X pc lv [.int 1] I J)
def lawV (I : MI) : Prop := ∃ P Q R, Rel2 I I P Q R
theorem hx_ip1 (i : Nat) : nI i + 1 = nI (i + 1) := by rw [show (1 : Int32) = nI 1 from by decide, nI_add]
theorem hx_ip2 (i : Nat) : nI i + 2 = nI (i + 2) := by rw [show (2 : Int32) = nI 2 from by decide, nI_add]
theorem hx_ip3 (i : Nat) : nI i + 3 = nI (i + 3) := by rw [show (3 : Int32) = nI 3 from by decide, nI_add]
theorem hx_ip4 (i : Nat) : nI i + 4 = nI (i + 4) := by rw [show (4 : Int32) = nI 4 from by decide, nI_add]

set_option maxHeartbeats 400000 in
theorem law_person {l : Launch} {D : va_G} {ad : Nat → Nat} {cy : Nat → ClassId} {b L i : Nat} {xs : Nat → Int32} {X : HX} (hi : hx_inj ad) (hX : Rl l D ad cy RL cL_law 4 13 X) (hS : Sc X b L xs) (h4 : i + 4 ≤ L) (hL : L ≤ 2048) {I : MI} {J : MJ} {P Q R : Nat} (h : Rel2 I I P Q R) (kk : ∀ I2 J2, lawV I2 → X 954 [(3, .int (nI i)), (2, .ref (ad 5)), (1, .ref (ad 0)), (0, .ref b)] [] I2 J2) : X 160 [(3, .int (nI i)), (2, .ref (ad 5)), (1, .ref (ad 0)), (0, .ref b)] [] I J := by
  refine wl_aload_n hX 2 rfl dL_law_160 ?_
  refine wl_aload_n hX 3 rfl dL_law_161 ?_
  refine wl_iload_n hX 0 rfl dL_law_162 ?_
  refine wl_iconst hX (v := 1) dL_law_163 (by decide) ?_
  refine wl_iadd hX dL_law_164 ?_
  refine wl_eqi (y := nI (i + 1)) (hx_ip1 i) ?_
  refine hS.1 165 (i + 1) _ _ _ _ (by omega) dL_law_165 ?_
  obtain ⟨I1, e1⟩ : ∃ I1, I1 = (hx_if (¬ withinF (xs (i + 1)) 0 2000 = 0 ∧ P < 12) (hx_u (hx_u (hx_u I 6 P (xs (i + 1))) 7 P 1) 1 0 (nI (P + 1))) I) := ⟨_, rfl⟩
  refine wl_cVi hX (c_X4_person hi I J (xs (i + 1)) P h.1.1.1 h.1.1.2.2) mv_X4_person tb_202 (by decide) rfl rfl rfl rfl (by omega) (Nat.le_of_ble_eq_true rfl) dL_law_166 ?_
  refine wl_mem e1.symm rfl ?_
  refine wl_aload_n hX 1 rfl dL_law_169 ?_
  refine wl_aload_n hX 3 rfl dL_law_170 ?_
  refine wl_iload_n hX 0 rfl dL_law_171 ?_
  refine wl_iconst hX (v := 1) dL_law_172 (by decide) ?_
  refine wl_iadd hX dL_law_173 ?_
  refine wl_eqi (y := nI (i + 1)) (hx_ip1 i) ?_
  refine hS.1 174 (i + 1) _ _ _ _ (by omega) dL_law_174 ?_
  obtain ⟨I2, e2⟩ : ∃ I2, I2 = (hx_if (¬ withinF (xs (i + 1)) 0 2000 = 0 ∧ P < 12) (hx_u (hx_u (hx_u I1 20 P (xs (i + 1))) 21 P 1) 5 0 (nI (P + 1))) I1) := ⟨_, rfl⟩
  obtain ⟨k1, N2, k2⟩ := op_person h e1 e2
  refine wl_cVi hX (c_X5_person hi I1 J (xs (i + 1)) P k1.1.1.2.1 k1.1.1.2.2) mv_X5_person tb_576 (by decide) rfl rfl rfl rfl (by omega) (Nat.le_of_ble_eq_true rfl) dL_law_175 ?_
  refine wl_mem e2.symm rfl ?_
  refine wl_icmp_eq hX (tgt := 954) dL_law_178 (by decide) (fun h8 => ?_) (fun h8 => absurd rfl h8)
  exact kk I2 J ⟨_, _, _, k2⟩

set_option maxHeartbeats 400000 in
theorem law_question {l : Launch} {D : va_G} {ad : Nat → Nat} {cy : Nat → ClassId} {b L i : Nat} {xs : Nat → Int32} {X : HX} (hi : hx_inj ad) (hX : Rl l D ad cy RL cL_law 4 13 X) (hS : Sc X b L xs) (h4 : i + 4 ≤ L) (hL : L ≤ 2048) {I : MI} {J : MJ} {P Q R : Nat} (h : Rel2 I I P Q R) (kk : ∀ I2 J2, lawV I2 → X 954 [(3, .int (nI i)), (2, .ref (ad 5)), (1, .ref (ad 0)), (0, .ref b)] [] I2 J2) : X 183 [(3, .int (nI i)), (2, .ref (ad 5)), (1, .ref (ad 0)), (0, .ref b)] [] I J := by
  refine wl_aload_n hX 2 rfl dL_law_183 ?_
  obtain ⟨I1, e1⟩ : ∃ I1, I1 = (hx_if (Q < 6) (hx_u I 1 1 (nI (Q + 1))) I) := ⟨_, rfl⟩
  refine wl_cVi hX (c_X4_question hi I J Q h.1.2.1.1 h.1.2.1.2.2) mv_X4_question tb_213 (by decide) rfl rfl rfl rfl (by omega) (Nat.le_of_ble_eq_true rfl) dL_law_184 ?_
  refine wl_mem e1.symm rfl ?_
  refine wl_aload_n hX 1 rfl dL_law_187 ?_
  obtain ⟨I2, e2⟩ : ∃ I2, I2 = (hx_if (Q < 6) (hx_u I1 5 1 (nI (Q + 1))) I1) := ⟨_, rfl⟩
  obtain ⟨k1, N2, k2⟩ := op_question h e1 e2
  refine wl_cVi hX (c_X5_question hi I1 J Q k1.1.2.1.2.1 k1.1.2.1.2.2) mv_X5_question tb_583 (by decide) rfl rfl rfl rfl (by omega) (Nat.le_of_ble_eq_true rfl) dL_law_188 ?_
  refine wl_mem e2.symm rfl ?_
  refine wl_icmp_eq hX (tgt := 954) dL_law_191 (by decide) (fun h8 => ?_) (fun h8 => absurd rfl h8)
  exact kk I2 J ⟨_, _, _, k2⟩

set_option maxHeartbeats 400000 in
theorem law_project {l : Launch} {D : va_G} {ad : Nat → Nat} {cy : Nat → ClassId} {b L i : Nat} {xs : Nat → Int32} {X : HX} (hi : hx_inj ad) (hX : Rl l D ad cy RL cL_law 4 13 X) (hS : Sc X b L xs) (h4 : i + 4 ≤ L) (hL : L ≤ 2048) {I : MI} {J : MJ} {P Q R : Nat} (h : Rel2 I I P Q R) (kk : ∀ I2 J2, lawV I2 → X 954 [(3, .int (nI i)), (2, .ref (ad 5)), (1, .ref (ad 0)), (0, .ref b)] [] I2 J2) : X 196 [(3, .int (nI i)), (2, .ref (ad 5)), (1, .ref (ad 0)), (0, .ref b)] [] I J := by
  refine wl_aload_n hX 2 rfl dL_law_196 ?_
  obtain ⟨I1, e1⟩ : ∃ I1, I1 = (hx_if (R < 6) (hx_u I 4 1 (nI (R + 1))) I) := ⟨_, rfl⟩
  refine wl_cVi hX (c_X4_project hi I J R h.1.2.2.1.1 h.1.2.2.1.2.2) mv_X4_project tb_217 (by decide) rfl rfl rfl rfl (by omega) (Nat.le_of_ble_eq_true rfl) dL_law_197 ?_
  refine wl_mem e1.symm rfl ?_
  refine wl_aload_n hX 1 rfl dL_law_200 ?_
  obtain ⟨I2, e2⟩ : ∃ I2, I2 = (hx_if (R < 6) (hx_u I1 5 2 (nI (R + 1))) I1) := ⟨_, rfl⟩
  obtain ⟨k1, N2, k2⟩ := op_project h e1 e2
  refine wl_cVi hX (c_X5_project hi I1 J R k1.1.2.2.1.2.1 k1.1.2.2.1.2.2) mv_X5_project tb_587 (by decide) rfl rfl rfl rfl (by omega) (Nat.le_of_ble_eq_true rfl) dL_law_201 ?_
  refine wl_mem e2.symm rfl ?_
  refine wl_icmp_eq hX (tgt := 954) dL_law_204 (by decide) (fun h8 => ?_) (fun h8 => absurd rfl h8)
  exact kk I2 J ⟨_, _, _, k2⟩

set_option maxHeartbeats 400000 in
theorem law_seed {l : Launch} {D : va_G} {ad : Nat → Nat} {cy : Nat → ClassId} {b L i : Nat} {xs : Nat → Int32} {X : HX} (hi : hx_inj ad) (hX : Rl l D ad cy RL cL_law 4 13 X) (hS : Sc X b L xs) (h4 : i + 4 ≤ L) (hL : L ≤ 2048) {I : MI} {J : MJ} {P Q R : Nat} (h : Rel2 I I P Q R) (kk : ∀ I2 J2, lawV I2 → X 954 [(3, .int (nI i)), (2, .ref (ad 5)), (1, .ref (ad 0)), (0, .ref b)] [] I2 J2) : X 209 [(3, .int (nI i)), (2, .ref (ad 5)), (1, .ref (ad 0)), (0, .ref b)] [] I J := by
  refine wl_aload_n hX 2 rfl dL_law_209 ?_
  refine wl_aload_n hX 3 rfl dL_law_210 ?_
  refine wl_iload_n hX 0 rfl dL_law_211 ?_
  refine wl_iconst hX (v := 1) dL_law_212 (by decide) ?_
  refine wl_iadd hX dL_law_213 ?_
  refine wl_eqi (y := nI (i + 1)) (hx_ip1 i) ?_
  refine hS.1 214 (i + 1) _ _ _ _ (by omega) dL_law_214 ?_
  obtain ⟨I1, e1⟩ : ∃ I1, I1 = (hx_u I 1 2 (xs (i + 1))) := ⟨_, rfl⟩
  refine wl_cVi hX (c_X4_seed hi I J (xs (i + 1))) mv_X4_seed tb_221 (by decide) rfl rfl rfl rfl (by omega) (Nat.le_of_ble_eq_true rfl) dL_law_215 ?_
  refine wl_mem e1.symm rfl ?_
  refine wl_aload_n hX 1 rfl dL_law_218 ?_
  refine wl_aload_n hX 3 rfl dL_law_219 ?_
  refine wl_iload_n hX 0 rfl dL_law_220 ?_
  refine wl_iconst hX (v := 1) dL_law_221 (by decide) ?_
  refine wl_iadd hX dL_law_222 ?_
  refine wl_eqi (y := nI (i + 1)) (hx_ip1 i) ?_
  refine hS.1 223 (i + 1) _ _ _ _ (by omega) dL_law_223 ?_
  obtain ⟨I2, e2⟩ : ∃ I2, I2 = (hx_u I1 5 3 (xs (i + 1))) := ⟨_, rfl⟩
  obtain ⟨k1, k2, k3⟩ := op_seed h e1 e2
  refine wl_cVi hX (c_X5_seed hi I1 J (xs (i + 1))) mv_X5_seed tb_591 (by decide) rfl rfl rfl rfl (by omega) (Nat.le_of_ble_eq_true rfl) dL_law_224 ?_
  refine wl_mem e2.symm rfl ?_
  refine wl_icmp_eq hX (tgt := 954) dL_law_227 (by decide) (fun h8 => ?_) (fun h8 => absurd k3 h8)
  exact kk I2 J ⟨_, _, _, k2⟩

set_option maxHeartbeats 400000 in
theorem law_vote {l : Launch} {D : va_G} {ad : Nat → Nat} {cy : Nat → ClassId} {b L i : Nat} {xs : Nat → Int32} {X : HX} (hi : hx_inj ad) (hX : Rl l D ad cy RL cL_law 4 13 X) (hS : Sc X b L xs) (h4 : i + 4 ≤ L) (hL : L ≤ 2048) {I : MI} {J : MJ} {P Q R : Nat} (h : Rel2 I I P Q R) (kk : ∀ I2 J2, lawV I2 → X 954 [(3, .int (nI i)), (2, .ref (ad 5)), (1, .ref (ad 0)), (0, .ref b)] [] I2 J2) : X 232 [(3, .int (nI i)), (2, .ref (ad 5)), (1, .ref (ad 0)), (0, .ref b)] [] I J := by
  refine wl_aload_n hX 2 rfl dL_law_232 ?_
  refine wl_aload_n hX 3 rfl dL_law_233 ?_
  refine wl_iload_n hX 0 rfl dL_law_234 ?_
  refine wl_iconst hX (v := 1) dL_law_235 (by decide) ?_
  refine wl_iadd hX dL_law_236 ?_
  refine wl_eqi (y := nI (i + 1)) (hx_ip1 i) ?_
  refine hS.1 237 (i + 1) _ _ _ _ (by omega) dL_law_237 ?_
  refine wl_aload_n hX 3 rfl dL_law_238 ?_
  refine wl_iload_n hX 0 rfl dL_law_239 ?_
  refine wl_iconst hX (v := 2) dL_law_240 (by decide) ?_
  refine wl_iadd hX dL_law_241 ?_
  refine wl_eqi (y := nI (i + 2)) (hx_ip2 i) ?_
  refine hS.1 242 (i + 2) _ _ _ _ (by omega) dL_law_242 ?_
  refine wl_aload_n hX 3 rfl dL_law_243 ?_
  refine wl_iload_n hX 0 rfl dL_law_244 ?_
  refine wl_iconst hX (v := 3) dL_law_245 (by decide) ?_
  refine wl_iadd hX dL_law_246 ?_
  refine wl_eqi (y := nI (i + 3)) (hx_ip3 i) ?_
  refine hS.1 247 (i + 3) _ _ _ _ (by omega) dL_law_247 ?_
  obtain ⟨I1, e1⟩ : ∃ I1, I1 = (hx_if (voteW P Q (vC I) (I 6) (xs (i + 1)) (xs (i + 2)) (xs (i + 3))) (hx_u I (33 + xN (xs (i + 1))) (xN (xs (i + 2))) (xs (i + 3))) I) := ⟨_, rfl⟩
  refine wl_cVi hX (c_X4_vote hi I J (xs (i + 1)) (xs (i + 2)) (xs (i + 3)) P h.1.1.1 h.1.1.2.2 Q h.1.2.1.1 h.1.2.1.2.2) mv_X4_vote tb_225 (by decide) rfl rfl rfl rfl (by omega) (Nat.le_of_ble_eq_true rfl) dL_law_248 ?_
  refine wl_mem e1.symm rfl ?_
  refine wl_aload_n hX 1 rfl dL_law_251 ?_
  refine wl_aload_n hX 3 rfl dL_law_252 ?_
  refine wl_iload_n hX 0 rfl dL_law_253 ?_
  refine wl_iconst hX (v := 1) dL_law_254 (by decide) ?_
  refine wl_iadd hX dL_law_255 ?_
  refine wl_eqi (y := nI (i + 1)) (hx_ip1 i) ?_
  refine hS.1 256 (i + 1) _ _ _ _ (by omega) dL_law_256 ?_
  refine wl_aload_n hX 3 rfl dL_law_257 ?_
  refine wl_iload_n hX 0 rfl dL_law_258 ?_
  refine wl_iconst hX (v := 2) dL_law_259 (by decide) ?_
  refine wl_iadd hX dL_law_260 ?_
  refine wl_eqi (y := nI (i + 2)) (hx_ip2 i) ?_
  refine hS.1 261 (i + 2) _ _ _ _ (by omega) dL_law_261 ?_
  refine wl_aload_n hX 3 rfl dL_law_262 ?_
  refine wl_iload_n hX 0 rfl dL_law_263 ?_
  refine wl_iconst hX (v := 3) dL_law_264 (by decide) ?_
  refine wl_iadd hX dL_law_265 ?_
  refine wl_eqi (y := nI (i + 3)) (hx_ip3 i) ?_
  refine hS.1 266 (i + 3) _ _ _ _ (by omega) dL_law_266 ?_
  obtain ⟨I2, e2⟩ : ∃ I2, I2 = (hx_if (voteW P Q (vM I1) (I1 20) (xs (i + 1)) (xs (i + 2)) (xs (i + 3))) (hx_u I1 22 (6 * xN (xs (i + 1)) + xN (xs (i + 2))) (xs (i + 3))) I1) := ⟨_, rfl⟩
  obtain ⟨k1, k2⟩ := op_vote h e1 e2
  refine wl_cVi hX (c_X5_vote hi I1 J (xs (i + 1)) (xs (i + 2)) (xs (i + 3)) P k1.1.1.2.1 k1.1.1.2.2 Q k1.1.2.1.2.1 k1.1.2.1.2.2) mv_X5_vote tb_595 (by decide) rfl rfl rfl rfl (by omega) (Nat.le_of_ble_eq_true rfl) dL_law_267 ?_
  refine wl_mem e2.symm rfl ?_
  refine wl_icmp_eq hX (tgt := 954) dL_law_270 (by decide) (fun h8 => ?_) (fun h8 => absurd ((re_vote k1.1 _ _ _).1) h8)
  exact kk I2 J ⟨_, _, _, k2⟩

set_option maxHeartbeats 400000 in
theorem law_worth {l : Launch} {D : va_G} {ad : Nat → Nat} {cy : Nat → ClassId} {b L i : Nat} {xs : Nat → Int32} {X : HX} (hi : hx_inj ad) (hX : Rl l D ad cy RL cL_law 4 13 X) (hS : Sc X b L xs) (h4 : i + 4 ≤ L) (hL : L ≤ 2048) {I : MI} {J : MJ} {P Q R : Nat} (h : Rel2 I I P Q R) (kk : ∀ I2 J2, lawV I2 → X 954 [(3, .int (nI i)), (2, .ref (ad 5)), (1, .ref (ad 0)), (0, .ref b)] [] I2 J2) : X 275 [(3, .int (nI i)), (2, .ref (ad 5)), (1, .ref (ad 0)), (0, .ref b)] [] I J := by
  refine wl_aload_n hX 2 rfl dL_law_275 ?_
  refine wl_aload_n hX 3 rfl dL_law_276 ?_
  refine wl_iload_n hX 0 rfl dL_law_277 ?_
  refine wl_iconst hX (v := 1) dL_law_278 (by decide) ?_
  refine wl_iadd hX dL_law_279 ?_
  refine wl_eqi (y := nI (i + 1)) (hx_ip1 i) ?_
  refine hS.1 280 (i + 1) _ _ _ _ (by omega) dL_law_280 ?_
  refine wl_aload_n hX 3 rfl dL_law_281 ?_
  refine wl_iload_n hX 0 rfl dL_law_282 ?_
  refine wl_iconst hX (v := 2) dL_law_283 (by decide) ?_
  refine wl_iadd hX dL_law_284 ?_
  refine wl_eqi (y := nI (i + 2)) (hx_ip2 i) ?_
  refine hS.1 285 (i + 2) _ _ _ _ (by omega) dL_law_285 ?_
  refine wl_aload_n hX 3 rfl dL_law_286 ?_
  refine wl_iload_n hX 0 rfl dL_law_287 ?_
  refine wl_iconst hX (v := 3) dL_law_288 (by decide) ?_
  refine wl_iadd hX dL_law_289 ?_
  refine wl_eqi (y := nI (i + 3)) (hx_ip3 i) ?_
  refine hS.1 290 (i + 3) _ _ _ _ (by omega) dL_law_290 ?_
  obtain ⟨I1, e1⟩ : ∃ I1, I1 = (hx_if (wasW P Q (-1000) 1000 (xs (i + 1)) (xs (i + 2)) (xs (i + 3))) (hx_u I (45 + xN (xs (i + 1))) (xN (xs (i + 2))) (xs (i + 3))) I) := ⟨_, rfl⟩
  refine wl_cVi hX (c_X4_worth hi I J (xs (i + 1)) (xs (i + 2)) (xs (i + 3)) P h.1.1.1 h.1.1.2.2 Q h.1.2.1.1 h.1.2.1.2.2) mv_X4_worth tb_241 (by decide) rfl rfl rfl rfl (by omega) (Nat.le_of_ble_eq_true rfl) dL_law_291 ?_
  refine wl_mem e1.symm rfl ?_
  refine wl_aload_n hX 1 rfl dL_law_294 ?_
  refine wl_aload_n hX 3 rfl dL_law_295 ?_
  refine wl_iload_n hX 0 rfl dL_law_296 ?_
  refine wl_iconst hX (v := 1) dL_law_297 (by decide) ?_
  refine wl_iadd hX dL_law_298 ?_
  refine wl_eqi (y := nI (i + 1)) (hx_ip1 i) ?_
  refine hS.1 299 (i + 1) _ _ _ _ (by omega) dL_law_299 ?_
  refine wl_aload_n hX 3 rfl dL_law_300 ?_
  refine wl_iload_n hX 0 rfl dL_law_301 ?_
  refine wl_iconst hX (v := 2) dL_law_302 (by decide) ?_
  refine wl_iadd hX dL_law_303 ?_
  refine wl_eqi (y := nI (i + 2)) (hx_ip2 i) ?_
  refine hS.1 304 (i + 2) _ _ _ _ (by omega) dL_law_304 ?_
  refine wl_aload_n hX 3 rfl dL_law_305 ?_
  refine wl_iload_n hX 0 rfl dL_law_306 ?_
  refine wl_iconst hX (v := 3) dL_law_307 (by decide) ?_
  refine wl_iadd hX dL_law_308 ?_
  refine wl_eqi (y := nI (i + 3)) (hx_ip3 i) ?_
  refine hS.1 309 (i + 3) _ _ _ _ (by omega) dL_law_309 ?_
  obtain ⟨I2, e2⟩ : ∃ I2, I2 = (hx_if (wasW P Q (-1000) 1000 (xs (i + 1)) (xs (i + 2)) (xs (i + 3))) (hx_u I1 23 (6 * xN (xs (i + 1)) + xN (xs (i + 2))) (xs (i + 3))) I1) := ⟨_, rfl⟩
  obtain ⟨k1, k2⟩ := op_worth h e1 e2
  refine wl_cVi hX (c_X5_worth hi I1 J (xs (i + 1)) (xs (i + 2)) (xs (i + 3)) P k1.1.1.2.1 k1.1.1.2.2 Q k1.1.2.1.2.1 k1.1.2.1.2.2) mv_X5_worth tb_611 (by decide) rfl rfl rfl rfl (by omega) (Nat.le_of_ble_eq_true rfl) dL_law_310 ?_
  refine wl_mem e2.symm rfl ?_
  refine wl_icmp_eq hX (tgt := 954) dL_law_313 (by decide) (fun h8 => ?_) (fun h8 => absurd (re_worth k1.1 _ _ _) h8)
  exact kk I2 J ⟨_, _, _, k2⟩

set_option maxHeartbeats 400000 in
theorem law_here1 {l : Launch} {D : va_G} {ad : Nat → Nat} {cy : Nat → ClassId} {b L i : Nat} {xs : Nat → Int32} {X : HX} (hi : hx_inj ad) (hX : Rl l D ad cy RL cL_law 4 13 X) (hS : Sc X b L xs) (h4 : i + 4 ≤ L) (hL : L ≤ 2048) (hz : ¬ xs (i + 2) = 0) {I : MI} {J : MJ} {P Q R : Nat} (h : Rel2 I I P Q R) (kk : ∀ I2 J2, lawV I2 → X 954 [(3, .int (nI i)), (2, .ref (ad 5)), (1, .ref (ad 0)), (0, .ref b)] [] I2 J2) : X 318 [(3, .int (nI i)), (2, .ref (ad 5)), (1, .ref (ad 0)), (0, .ref b)] [] I J := by
  refine wl_aload_n hX 2 rfl dL_law_318 ?_
  refine wl_aload_n hX 3 rfl dL_law_319 ?_
  refine wl_iload_n hX 0 rfl dL_law_320 ?_
  refine wl_iconst hX (v := 1) dL_law_321 (by decide) ?_
  refine wl_iadd hX dL_law_322 ?_
  refine wl_eqi (y := nI (i + 1)) (hx_ip1 i) ?_
  refine hS.1 323 (i + 1) _ _ _ _ (by omega) dL_law_323 ?_
  refine wl_aload_n hX 3 rfl dL_law_324 ?_
  refine wl_iload_n hX 0 rfl dL_law_325 ?_
  refine wl_iconst hX (v := 2) dL_law_326 (by decide) ?_
  refine wl_iadd hX dL_law_327 ?_
  refine wl_eqi (y := nI (i + 2)) (hx_ip2 i) ?_
  refine hS.1 328 (i + 2) _ _ _ _ (by omega) dL_law_328 ?_
  refine wl_if_eq hX (tgt := 336) dL_law_329 (by decide) (fun h9 => absurd h9 hz) (fun h9 => ?_)
  refine wl_iconst hX (v := 1) dL_law_332 (by decide) ?_
  refine wl_goto hX (tgt := 337) dL_law_333 (by decide) ?_
  obtain ⟨I1, e1⟩ : ∃ I1, I1 = (hx_if (¬ inF (xs (i + 1)) (nI P) = 0) (hx_u I 7 (xN (xs (i + 1))) 1) I) := ⟨_, rfl⟩
  refine wl_cVi hX (c_X4_here hi I J (xs (i + 1)) 1 (Or.inr rfl) P h.1.1.1 h.1.1.2.2) mv_X4_here tb_245 (by decide) rfl rfl rfl rfl (by omega) (Nat.le_of_ble_eq_true rfl) dL_law_337 ?_
  refine wl_mem e1.symm rfl ?_
  refine wl_aload_n hX 1 rfl dL_law_340 ?_
  refine wl_aload_n hX 3 rfl dL_law_341 ?_
  refine wl_iload_n hX 0 rfl dL_law_342 ?_
  refine wl_iconst hX (v := 1) dL_law_343 (by decide) ?_
  refine wl_iadd hX dL_law_344 ?_
  refine wl_eqi (y := nI (i + 1)) (hx_ip1 i) ?_
  refine hS.1 345 (i + 1) _ _ _ _ (by omega) dL_law_345 ?_
  refine wl_aload_n hX 3 rfl dL_law_346 ?_
  refine wl_iload_n hX 0 rfl dL_law_347 ?_
  refine wl_iconst hX (v := 2) dL_law_348 (by decide) ?_
  refine wl_iadd hX dL_law_349 ?_
  refine wl_eqi (y := nI (i + 2)) (hx_ip2 i) ?_
  refine hS.1 350 (i + 2) _ _ _ _ (by omega) dL_law_350 ?_
  refine wl_if_eq hX (tgt := 358) dL_law_351 (by decide) (fun h9 => absurd h9 hz) (fun h9 => ?_)
  refine wl_iconst hX (v := 1) dL_law_354 (by decide) ?_
  refine wl_goto hX (tgt := 359) dL_law_355 (by decide) ?_
  obtain ⟨I2, e2⟩ : ∃ I2, I2 = (hx_if (¬ inF (xs (i + 1)) (nI P) = 0) (hx_u I1 21 (xN (xs (i + 1))) 1) I1) := ⟨_, rfl⟩
  obtain ⟨k1, k2⟩ := op_here h e1 e2
  refine wl_cVi hX (c_X5_here hi I1 J (xs (i + 1)) 1 (Or.inr rfl) P k1.1.1.2.1 k1.1.1.2.2) mv_X5_here tb_615 (by decide) rfl rfl rfl rfl (by omega) (Nat.le_of_ble_eq_true rfl) dL_law_359 ?_
  refine wl_mem e2.symm rfl ?_
  refine wl_icmp_eq hX (tgt := 954) dL_law_362 (by decide) (fun h8 => ?_) (fun h8 => absurd (re_here k1.1 _) h8)
  exact kk I2 J ⟨_, _, _, k2⟩

set_option maxHeartbeats 400000 in
theorem law_here0 {l : Launch} {D : va_G} {ad : Nat → Nat} {cy : Nat → ClassId} {b L i : Nat} {xs : Nat → Int32} {X : HX} (hi : hx_inj ad) (hX : Rl l D ad cy RL cL_law 4 13 X) (hS : Sc X b L xs) (h4 : i + 4 ≤ L) (hL : L ≤ 2048) (hz : xs (i + 2) = 0) {I : MI} {J : MJ} {P Q R : Nat} (h : Rel2 I I P Q R) (kk : ∀ I2 J2, lawV I2 → X 954 [(3, .int (nI i)), (2, .ref (ad 5)), (1, .ref (ad 0)), (0, .ref b)] [] I2 J2) : X 318 [(3, .int (nI i)), (2, .ref (ad 5)), (1, .ref (ad 0)), (0, .ref b)] [] I J := by
  refine wl_aload_n hX 2 rfl dL_law_318 ?_
  refine wl_aload_n hX 3 rfl dL_law_319 ?_
  refine wl_iload_n hX 0 rfl dL_law_320 ?_
  refine wl_iconst hX (v := 1) dL_law_321 (by decide) ?_
  refine wl_iadd hX dL_law_322 ?_
  refine wl_eqi (y := nI (i + 1)) (hx_ip1 i) ?_
  refine hS.1 323 (i + 1) _ _ _ _ (by omega) dL_law_323 ?_
  refine wl_aload_n hX 3 rfl dL_law_324 ?_
  refine wl_iload_n hX 0 rfl dL_law_325 ?_
  refine wl_iconst hX (v := 2) dL_law_326 (by decide) ?_
  refine wl_iadd hX dL_law_327 ?_
  refine wl_eqi (y := nI (i + 2)) (hx_ip2 i) ?_
  refine hS.1 328 (i + 2) _ _ _ _ (by omega) dL_law_328 ?_
  refine wl_if_eq hX (tgt := 336) dL_law_329 (by decide) (fun h9 => ?_) (fun h9 => absurd hz h9)
  refine wl_iconst hX (v := 0) dL_law_336 (by decide) ?_
  obtain ⟨I1, e1⟩ : ∃ I1, I1 = (hx_if (¬ inF (xs (i + 1)) (nI P) = 0) (hx_u I 7 (xN (xs (i + 1))) 0) I) := ⟨_, rfl⟩
  refine wl_cVi hX (c_X4_here hi I J (xs (i + 1)) 0 (Or.inl rfl) P h.1.1.1 h.1.1.2.2) mv_X4_here tb_245 (by decide) rfl rfl rfl rfl (by omega) (Nat.le_of_ble_eq_true rfl) dL_law_337 ?_
  refine wl_mem e1.symm rfl ?_
  refine wl_aload_n hX 1 rfl dL_law_340 ?_
  refine wl_aload_n hX 3 rfl dL_law_341 ?_
  refine wl_iload_n hX 0 rfl dL_law_342 ?_
  refine wl_iconst hX (v := 1) dL_law_343 (by decide) ?_
  refine wl_iadd hX dL_law_344 ?_
  refine wl_eqi (y := nI (i + 1)) (hx_ip1 i) ?_
  refine hS.1 345 (i + 1) _ _ _ _ (by omega) dL_law_345 ?_
  refine wl_aload_n hX 3 rfl dL_law_346 ?_
  refine wl_iload_n hX 0 rfl dL_law_347 ?_
  refine wl_iconst hX (v := 2) dL_law_348 (by decide) ?_
  refine wl_iadd hX dL_law_349 ?_
  refine wl_eqi (y := nI (i + 2)) (hx_ip2 i) ?_
  refine hS.1 350 (i + 2) _ _ _ _ (by omega) dL_law_350 ?_
  refine wl_if_eq hX (tgt := 358) dL_law_351 (by decide) (fun h9 => ?_) (fun h9 => absurd hz h9)
  refine wl_iconst hX (v := 0) dL_law_358 (by decide) ?_
  obtain ⟨I2, e2⟩ : ∃ I2, I2 = (hx_if (¬ inF (xs (i + 1)) (nI P) = 0) (hx_u I1 21 (xN (xs (i + 1))) 0) I1) := ⟨_, rfl⟩
  obtain ⟨k1, k2⟩ := op_here h e1 e2
  refine wl_cVi hX (c_X5_here hi I1 J (xs (i + 1)) 0 (Or.inl rfl) P k1.1.1.2.1 k1.1.1.2.2) mv_X5_here tb_615 (by decide) rfl rfl rfl rfl (by omega) (Nat.le_of_ble_eq_true rfl) dL_law_359 ?_
  refine wl_mem e2.symm rfl ?_
  refine wl_icmp_eq hX (tgt := 954) dL_law_362 (by decide) (fun h8 => ?_) (fun h8 => absurd (re_here k1.1 _) h8)
  exact kk I2 J ⟨_, _, _, k2⟩

set_option maxHeartbeats 400000 in
theorem law_voices {l : Launch} {D : va_G} {ad : Nat → Nat} {cy : Nat → ClassId} {b L i : Nat} {xs : Nat → Int32} {X : HX} (hi : hx_inj ad) (hX : Rl l D ad cy RL cL_law 4 13 X) (hS : Sc X b L xs) (h4 : i + 4 ≤ L) (hL : L ≤ 2048) {I : MI} {J : MJ} {P Q R : Nat} (h : Rel2 I I P Q R) (kk : ∀ I2 J2, lawV I2 → X 954 [(3, .int (nI i)), (2, .ref (ad 5)), (1, .ref (ad 0)), (0, .ref b)] [] I2 J2) : X 367 [(3, .int (nI i)), (2, .ref (ad 5)), (1, .ref (ad 0)), (0, .ref b)] [] I J := by
  refine wl_aload_n hX 2 rfl dL_law_367 ?_
  refine wl_aload_n hX 3 rfl dL_law_368 ?_
  refine wl_iload_n hX 0 rfl dL_law_369 ?_
  refine wl_iconst hX (v := 1) dL_law_370 (by decide) ?_
  refine wl_iadd hX dL_law_371 ?_
  refine wl_eqi (y := nI (i + 1)) (hx_ip1 i) ?_
  refine hS.1 372 (i + 1) _ _ _ _ (by omega) dL_law_372 ?_
  refine wl_aload_n hX 3 rfl dL_law_373 ?_
  refine wl_iload_n hX 0 rfl dL_law_374 ?_
  refine wl_iconst hX (v := 2) dL_law_375 (by decide) ?_
  refine wl_iadd hX dL_law_376 ?_
  refine wl_eqi (y := nI (i + 2)) (hx_ip2 i) ?_
  refine hS.1 377 (i + 2) _ _ _ _ (by omega) dL_law_377 ?_
  obtain ⟨I1, e1⟩ : ∃ I1, I1 = I := ⟨_, rfl⟩
  refine wl_cVi hX (c_X4_voices hi I J (xs (i + 1)) (xs (i + 2)) P h.1.1.1 h.1.1.2.2 Q h.1.2.1.1 h.1.2.1.2.2) mv_X4_voices tb_249 (by decide) rfl rfl rfl rfl (by omega) (Nat.le_of_ble_eq_true rfl) dL_law_378 ?_
  refine wl_mem e1.symm rfl ?_
  refine wl_aload_n hX 1 rfl dL_law_381 ?_
  refine wl_aload_n hX 3 rfl dL_law_382 ?_
  refine wl_iload_n hX 0 rfl dL_law_383 ?_
  refine wl_iconst hX (v := 1) dL_law_384 (by decide) ?_
  refine wl_iadd hX dL_law_385 ?_
  refine wl_eqi (y := nI (i + 1)) (hx_ip1 i) ?_
  refine hS.1 386 (i + 1) _ _ _ _ (by omega) dL_law_386 ?_
  refine wl_aload_n hX 3 rfl dL_law_387 ?_
  refine wl_iload_n hX 0 rfl dL_law_388 ?_
  refine wl_iconst hX (v := 2) dL_law_389 (by decide) ?_
  refine wl_iadd hX dL_law_390 ?_
  refine wl_eqi (y := nI (i + 2)) (hx_ip2 i) ?_
  refine hS.1 391 (i + 2) _ _ _ _ (by omega) dL_law_391 ?_
  obtain ⟨I2, e2⟩ : ∃ I2, I2 = I1 := ⟨_, rfl⟩
  obtain ⟨k1, k2⟩ := opN h e1 e2
  refine wl_cVi hX (c_X5_voices hi I1 J (xs (i + 1)) (xs (i + 2)) P k1.1.1.2.1 k1.1.1.2.2 Q k1.1.2.1.2.1 k1.1.2.1.2.2) mv_X5_voices tb_619 (by decide) rfl rfl rfl rfl (by omega) (Nat.le_of_ble_eq_true rfl) dL_law_392 ?_
  refine wl_mem e2.symm rfl ?_
  refine wl_icmp_eq hX (tgt := 954) dL_law_395 (by decide) (fun h8 => ?_) (fun h8 => absurd (re_voices k1.1 _ _) h8)
  exact kk I2 J ⟨_, _, _, k2⟩

set_option maxHeartbeats 400000 in
theorem law_cost {l : Launch} {D : va_G} {ad : Nat → Nat} {cy : Nat → ClassId} {b L i : Nat} {xs : Nat → Int32} {X : HX} (hi : hx_inj ad) (hX : Rl l D ad cy RL cL_law 4 13 X) (hS : Sc X b L xs) (h4 : i + 4 ≤ L) (hL : L ≤ 2048) {I : MI} {J : MJ} {P Q R : Nat} (h : Rel2 I I P Q R) (kk : ∀ I2 J2, lawV I2 → X 954 [(3, .int (nI i)), (2, .ref (ad 5)), (1, .ref (ad 0)), (0, .ref b)] [] I2 J2) : X 400 [(3, .int (nI i)), (2, .ref (ad 5)), (1, .ref (ad 0)), (0, .ref b)] [] I J := by
  refine wl_aload_n hX 2 rfl dL_law_400 ?_
  refine wl_aload_n hX 3 rfl dL_law_401 ?_
  refine wl_iload_n hX 0 rfl dL_law_402 ?_
  refine wl_iconst hX (v := 1) dL_law_403 (by decide) ?_
  refine wl_iadd hX dL_law_404 ?_
  refine wl_eqi (y := nI (i + 1)) (hx_ip1 i) ?_
  refine hS.1 405 (i + 1) _ _ _ _ (by omega) dL_law_405 ?_
  obtain ⟨I1, e1⟩ : ∃ I1, I1 = I := ⟨_, rfl⟩
  refine wl_cVi hX (c_X4_cost hi I J (xs (i + 1)) P h.1.1.1 h.1.1.2.2 Q h.1.2.1.1 h.1.2.1.2.2) mv_X4_cost tb_253 (by decide) rfl rfl rfl rfl (by omega) (Nat.le_of_ble_eq_true rfl) dL_law_406 ?_
  refine wl_mem e1.symm rfl ?_
  refine wl_aload_n hX 1 rfl dL_law_409 ?_
  refine wl_aload_n hX 3 rfl dL_law_410 ?_
  refine wl_iload_n hX 0 rfl dL_law_411 ?_
  refine wl_iconst hX (v := 1) dL_law_412 (by decide) ?_
  refine wl_iadd hX dL_law_413 ?_
  refine wl_eqi (y := nI (i + 1)) (hx_ip1 i) ?_
  refine hS.1 414 (i + 1) _ _ _ _ (by omega) dL_law_414 ?_
  obtain ⟨I2, e2⟩ : ∃ I2, I2 = I1 := ⟨_, rfl⟩
  obtain ⟨k1, k2⟩ := opN h e1 e2
  refine wl_cVi hX (c_X5_cost hi I1 J (xs (i + 1)) P k1.1.1.2.1 k1.1.1.2.2 Q k1.1.2.1.2.1 k1.1.2.1.2.2) mv_X5_cost tb_623 (by decide) rfl rfl rfl rfl (by omega) (Nat.le_of_ble_eq_true rfl) dL_law_415 ?_
  refine wl_mem e2.symm rfl ?_
  refine wl_icmp_eq hX (tgt := 954) dL_law_418 (by decide) (fun h8 => ?_) (fun h8 => absurd (re_cost k1.1 _) h8)
  exact kk I2 J ⟨_, _, _, k2⟩

set_option maxHeartbeats 400000 in
theorem law_total {l : Launch} {D : va_G} {ad : Nat → Nat} {cy : Nat → ClassId} {b L i : Nat} {xs : Nat → Int32} {X : HX} (hi : hx_inj ad) (hX : Rl l D ad cy RL cL_law 4 13 X) (hS : Sc X b L xs) (h4 : i + 4 ≤ L) (hL : L ≤ 2048) {I : MI} {J : MJ} {P Q R : Nat} (h : Rel2 I I P Q R) (kk : ∀ I2 J2, lawV I2 → X 954 [(3, .int (nI i)), (2, .ref (ad 5)), (1, .ref (ad 0)), (0, .ref b)] [] I2 J2) : X 423 [(3, .int (nI i)), (2, .ref (ad 5)), (1, .ref (ad 0)), (0, .ref b)] [] I J := by
  refine wl_aload_n hX 2 rfl dL_law_423 ?_
  refine wl_aload_n hX 3 rfl dL_law_424 ?_
  refine wl_iload_n hX 0 rfl dL_law_425 ?_
  refine wl_iconst hX (v := 1) dL_law_426 (by decide) ?_
  refine wl_iadd hX dL_law_427 ?_
  refine wl_eqi (y := nI (i + 1)) (hx_ip1 i) ?_
  refine hS.1 428 (i + 1) _ _ _ _ (by omega) dL_law_428 ?_
  obtain ⟨I1, e1⟩ : ∃ I1, I1 = I := ⟨_, rfl⟩
  refine wl_cVi hX (c_X4_total hi I J (xs (i + 1)) P h.1.1.1 h.1.1.2.2 Q h.1.2.1.1 h.1.2.1.2.2) mv_X4_total tb_257 (by decide) rfl rfl rfl rfl (by omega) (Nat.le_of_ble_eq_true rfl) dL_law_429 ?_
  refine wl_mem e1.symm rfl ?_
  refine wl_aload_n hX 1 rfl dL_law_432 ?_
  refine wl_aload_n hX 3 rfl dL_law_433 ?_
  refine wl_iload_n hX 0 rfl dL_law_434 ?_
  refine wl_iconst hX (v := 1) dL_law_435 (by decide) ?_
  refine wl_iadd hX dL_law_436 ?_
  refine wl_eqi (y := nI (i + 1)) (hx_ip1 i) ?_
  refine hS.1 437 (i + 1) _ _ _ _ (by omega) dL_law_437 ?_
  obtain ⟨I2, e2⟩ : ∃ I2, I2 = I1 := ⟨_, rfl⟩
  obtain ⟨k1, k2⟩ := opN h e1 e2
  refine wl_cVi hX (c_X5_total hi I1 J (xs (i + 1)) P k1.1.1.2.1 k1.1.1.2.2 Q k1.1.2.1.2.1 k1.1.2.1.2.2) mv_X5_total tb_627 (by decide) rfl rfl rfl rfl (by omega) (Nat.le_of_ble_eq_true rfl) dL_law_438 ?_
  refine wl_mem e2.symm rfl ?_
  refine wl_icmp_eq hX (tgt := 954) dL_law_441 (by decide) (fun h8 => ?_) (fun h8 => absurd (re_total k1.1 _) h8)
  exact kk I2 J ⟨_, _, _, k2⟩

set_option maxHeartbeats 400000 in
theorem law_result {l : Launch} {D : va_G} {ad : Nat → Nat} {cy : Nat → ClassId} {b L i : Nat} {xs : Nat → Int32} {X : HX} (hi : hx_inj ad) (hX : Rl l D ad cy RL cL_law 4 13 X) (hS : Sc X b L xs) (h4 : i + 4 ≤ L) (hL : L ≤ 2048) {I : MI} {J : MJ} {P Q R : Nat} (h : Rel2 I I P Q R) (kk : ∀ I2 J2, lawV I2 → X 954 [(3, .int (nI i)), (2, .ref (ad 5)), (1, .ref (ad 0)), (0, .ref b)] [] I2 J2) : X 446 [(3, .int (nI i)), (2, .ref (ad 5)), (1, .ref (ad 0)), (0, .ref b)] [] I J := by
  refine wl_aload_n hX 2 rfl dL_law_446 ?_
  refine wl_aload_n hX 3 rfl dL_law_447 ?_
  refine wl_iload_n hX 0 rfl dL_law_448 ?_
  refine wl_iconst hX (v := 1) dL_law_449 (by decide) ?_
  refine wl_iadd hX dL_law_450 ?_
  refine wl_eqi (y := nI (i + 1)) (hx_ip1 i) ?_
  refine hS.1 451 (i + 1) _ _ _ _ (by omega) dL_law_451 ?_
  obtain ⟨I1, e1⟩ : ∃ I1, I1 = I := ⟨_, rfl⟩
  refine wl_cVi hX (c_X4_result hi I J (xs (i + 1)) P h.1.1.1 h.1.1.2.2 Q h.1.2.1.1 h.1.2.1.2.2) mv_X4_result tb_265 (by decide) rfl rfl rfl rfl (by omega) (Nat.le_of_ble_eq_true rfl) dL_law_452 ?_
  refine wl_mem e1.symm rfl ?_
  refine wl_aload_n hX 1 rfl dL_law_455 ?_
  refine wl_aload_n hX 3 rfl dL_law_456 ?_
  refine wl_iload_n hX 0 rfl dL_law_457 ?_
  refine wl_iconst hX (v := 1) dL_law_458 (by decide) ?_
  refine wl_iadd hX dL_law_459 ?_
  refine wl_eqi (y := nI (i + 1)) (hx_ip1 i) ?_
  refine hS.1 460 (i + 1) _ _ _ _ (by omega) dL_law_460 ?_
  obtain ⟨I2, e2⟩ : ∃ I2, I2 = I1 := ⟨_, rfl⟩
  obtain ⟨k1, k2⟩ := opN h e1 e2
  refine wl_cVi hX (c_X5_result hi I1 J (xs (i + 1)) P k1.1.1.2.1 k1.1.1.2.2 Q k1.1.2.1.2.1 k1.1.2.1.2.2) mv_X5_result tb_635 (by decide) rfl rfl rfl rfl (by omega) (Nat.le_of_ble_eq_true rfl) dL_law_461 ?_
  refine wl_mem e2.symm rfl ?_
  refine wl_icmp_eq hX (tgt := 954) dL_law_464 (by decide) (fun h8 => ?_) (fun h8 => absurd (re_result k1.1 _) h8)
  exact kk I2 J ⟨_, _, _, k2⟩

set_option maxHeartbeats 400000 in
theorem law_gain {l : Launch} {D : va_G} {ad : Nat → Nat} {cy : Nat → ClassId} {b L i : Nat} {xs : Nat → Int32} {X : HX} (hi : hx_inj ad) (hX : Rl l D ad cy RL cL_law 4 13 X) (hS : Sc X b L xs) (h4 : i + 4 ≤ L) (hL : L ≤ 2048) {I : MI} {J : MJ} {P Q R : Nat} (h : Rel2 I I P Q R) (kk : ∀ I2 J2, lawV I2 → X 954 [(3, .int (nI i)), (2, .ref (ad 5)), (1, .ref (ad 0)), (0, .ref b)] [] I2 J2) : X 469 [(3, .int (nI i)), (2, .ref (ad 5)), (1, .ref (ad 0)), (0, .ref b)] [] I J := by
  refine wl_aload_n hX 2 rfl dL_law_469 ?_
  refine wl_aload_n hX 3 rfl dL_law_470 ?_
  refine wl_iload_n hX 0 rfl dL_law_471 ?_
  refine wl_iconst hX (v := 1) dL_law_472 (by decide) ?_
  refine wl_iadd hX dL_law_473 ?_
  refine wl_eqi (y := nI (i + 1)) (hx_ip1 i) ?_
  refine hS.1 474 (i + 1) _ _ _ _ (by omega) dL_law_474 ?_
  obtain ⟨I1, e1⟩ : ∃ I1, I1 = I := ⟨_, rfl⟩
  refine wl_cVi hX (c_X4_gain hi I J (xs (i + 1)) P h.1.1.1 h.1.1.2.2 Q h.1.2.1.1 h.1.2.1.2.2) mv_X4_gain tb_275 (by decide) rfl rfl rfl rfl (by omega) (Nat.le_of_ble_eq_true rfl) dL_law_475 ?_
  refine wl_mem e1.symm rfl ?_
  refine wl_aload_n hX 1 rfl dL_law_478 ?_
  refine wl_aload_n hX 3 rfl dL_law_479 ?_
  refine wl_iload_n hX 0 rfl dL_law_480 ?_
  refine wl_iconst hX (v := 1) dL_law_481 (by decide) ?_
  refine wl_iadd hX dL_law_482 ?_
  refine wl_eqi (y := nI (i + 1)) (hx_ip1 i) ?_
  refine hS.1 483 (i + 1) _ _ _ _ (by omega) dL_law_483 ?_
  obtain ⟨I2, e2⟩ : ∃ I2, I2 = I1 := ⟨_, rfl⟩
  obtain ⟨k1, k2⟩ := opN h e1 e2
  refine wl_cVi hX (c_X5_gain hi I1 J (xs (i + 1)) P k1.1.1.2.1 k1.1.1.2.2 Q k1.1.2.1.2.1 k1.1.2.1.2.2) mv_X5_gain tb_645 (by decide) rfl rfl rfl rfl (by omega) (Nat.le_of_ble_eq_true rfl) dL_law_484 ?_
  refine wl_mem e2.symm rfl ?_
  refine wl_icmp_eq hX (tgt := 954) dL_law_487 (by decide) (fun h8 => ?_) (fun h8 => absurd (re_gain k1.1 _) h8)
  exact kk I2 J ⟨_, _, _, k2⟩

set_option maxHeartbeats 400000 in
theorem law_swings {l : Launch} {D : va_G} {ad : Nat → Nat} {cy : Nat → ClassId} {b L i : Nat} {xs : Nat → Int32} {X : HX} (hi : hx_inj ad) (hX : Rl l D ad cy RL cL_law 4 13 X) (hS : Sc X b L xs) (h4 : i + 4 ≤ L) (hL : L ≤ 2048) {I : MI} {J : MJ} {P Q R : Nat} (h : Rel2 I I P Q R) (kk : ∀ I2 J2, lawV I2 → X 954 [(3, .int (nI i)), (2, .ref (ad 5)), (1, .ref (ad 0)), (0, .ref b)] [] I2 J2) : X 492 [(3, .int (nI i)), (2, .ref (ad 5)), (1, .ref (ad 0)), (0, .ref b)] [] I J := by
  refine wl_aload_n hX 2 rfl dL_law_492 ?_
  refine wl_aload_n hX 3 rfl dL_law_493 ?_
  refine wl_iload_n hX 0 rfl dL_law_494 ?_
  refine wl_iconst hX (v := 1) dL_law_495 (by decide) ?_
  refine wl_iadd hX dL_law_496 ?_
  refine wl_eqi (y := nI (i + 1)) (hx_ip1 i) ?_
  refine hS.1 497 (i + 1) _ _ _ _ (by omega) dL_law_497 ?_
  obtain ⟨I1, e1⟩ : ∃ I1, I1 = I := ⟨_, rfl⟩
  refine wl_cVi hX (c_X4_swings hi I J (xs (i + 1)) P h.1.1.1 h.1.1.2.2 Q h.1.2.1.1 h.1.2.1.2.2) mv_X4_swings tb_288 (by decide) rfl rfl rfl rfl (by omega) (Nat.le_of_ble_eq_true rfl) dL_law_498 ?_
  refine wl_mem e1.symm rfl ?_
  refine wl_aload_n hX 1 rfl dL_law_501 ?_
  refine wl_aload_n hX 3 rfl dL_law_502 ?_
  refine wl_iload_n hX 0 rfl dL_law_503 ?_
  refine wl_iconst hX (v := 1) dL_law_504 (by decide) ?_
  refine wl_iadd hX dL_law_505 ?_
  refine wl_eqi (y := nI (i + 1)) (hx_ip1 i) ?_
  refine hS.1 506 (i + 1) _ _ _ _ (by omega) dL_law_506 ?_
  obtain ⟨I2, e2⟩ : ∃ I2, I2 = I1 := ⟨_, rfl⟩
  obtain ⟨k1, k2⟩ := opN h e1 e2
  refine wl_cVi hX (c_X5_swings hi I1 J (xs (i + 1)) P k1.1.1.2.1 k1.1.1.2.2 Q k1.1.2.1.2.1 k1.1.2.1.2.2) mv_X5_swings tb_657 (by decide) rfl rfl rfl rfl (by omega) (Nat.le_of_ble_eq_true rfl) dL_law_507 ?_
  refine wl_mem e2.symm rfl ?_
  refine wl_icmp_eq hX (tgt := 954) dL_law_510 (by decide) (fun h8 => ?_) (fun h8 => absurd (re_swings k1.1 _) h8)
  exact kk I2 J ⟨_, _, _, k2⟩

set_option maxHeartbeats 400000 in
theorem law_best {l : Launch} {D : va_G} {ad : Nat → Nat} {cy : Nat → ClassId} {b L i : Nat} {xs : Nat → Int32} {X : HX} (hi : hx_inj ad) (hX : Rl l D ad cy RL cL_law 4 13 X) (hS : Sc X b L xs) (h4 : i + 4 ≤ L) (hL : L ≤ 2048) {I : MI} {J : MJ} {P Q R : Nat} (h : Rel2 I I P Q R) (kk : ∀ I2 J2, lawV I2 → X 954 [(3, .int (nI i)), (2, .ref (ad 5)), (1, .ref (ad 0)), (0, .ref b)] [] I2 J2) : X 515 [(3, .int (nI i)), (2, .ref (ad 5)), (1, .ref (ad 0)), (0, .ref b)] [] I J := by
  refine wl_aload_n hX 2 rfl dL_law_515 ?_
  refine wl_aload_n hX 3 rfl dL_law_516 ?_
  refine wl_iload_n hX 0 rfl dL_law_517 ?_
  refine wl_iconst hX (v := 1) dL_law_518 (by decide) ?_
  refine wl_iadd hX dL_law_519 ?_
  refine wl_eqi (y := nI (i + 1)) (hx_ip1 i) ?_
  refine hS.1 520 (i + 1) _ _ _ _ (by omega) dL_law_520 ?_
  obtain ⟨I1, e1⟩ : ∃ I1, I1 = (hx_if (¬ inF (xs (i + 1)) (nI P) = 0) (ffM I P Q (xN (xs (i + 1)))) I) := ⟨_, rfl⟩
  refine wl_cVi hX (c_X4_best hi I J (xs (i + 1)) P h.1.1.1 h.1.1.2.2 Q h.1.2.1.1 h.1.2.1.2.2) mv_X4_best tb_301 (by decide) rfl rfl rfl rfl (by omega) (Nat.le_of_ble_eq_true rfl) dL_law_521 ?_
  refine wl_mem e1.symm rfl ?_
  refine wl_aload_n hX 1 rfl dL_law_524 ?_
  refine wl_aload_n hX 3 rfl dL_law_525 ?_
  refine wl_iload_n hX 0 rfl dL_law_526 ?_
  refine wl_iconst hX (v := 1) dL_law_527 (by decide) ?_
  refine wl_iadd hX dL_law_528 ?_
  refine wl_eqi (y := nI (i + 1)) (hx_ip1 i) ?_
  refine hS.1 529 (i + 1) _ _ _ _ (by omega) dL_law_529 ?_
  obtain ⟨I2, e2⟩ : ∃ I2, I2 = (hx_if (¬ inF (xs (i + 1)) (nI P) = 0) (fmM I1 P Q (xN (xs (i + 1)))) I1) := ⟨_, rfl⟩
  obtain ⟨k1, k2⟩ := op_find h e1 e2
  refine wl_cVi hX (c_X5_best hi I1 J (xs (i + 1)) P k1.1.1.2.1 k1.1.1.2.2 Q k1.1.2.1.2.1 k1.1.2.1.2.2) mv_X5_best tb_661 (by decide) rfl rfl rfl rfl (by omega) (Nat.le_of_ble_eq_true rfl) dL_law_530 ?_
  refine wl_mem e2.symm rfl ?_
  refine wl_icmp_eq hX (tgt := 954) dL_law_533 (by decide) (fun h8 => ?_) (fun h8 => absurd (re_best k1.1 _) h8)
  exact kk I2 J ⟨_, _, _, k2⟩

set_option maxHeartbeats 400000 in
theorem law_answer {l : Launch} {D : va_G} {ad : Nat → Nat} {cy : Nat → ClassId} {b L i : Nat} {xs : Nat → Int32} {X : HX} (hi : hx_inj ad) (hX : Rl l D ad cy RL cL_law 4 13 X) (hS : Sc X b L xs) (h4 : i + 4 ≤ L) (hL : L ≤ 2048) {I : MI} {J : MJ} {P Q R : Nat} (h : Rel2 I I P Q R) (kk : ∀ I2 J2, lawV I2 → X 954 [(3, .int (nI i)), (2, .ref (ad 5)), (1, .ref (ad 0)), (0, .ref b)] [] I2 J2) : X 538 [(3, .int (nI i)), (2, .ref (ad 5)), (1, .ref (ad 0)), (0, .ref b)] [] I J := by
  refine wl_aload_n hX 2 rfl dL_law_538 ?_
  refine wl_aload_n hX 3 rfl dL_law_539 ?_
  refine wl_iload_n hX 0 rfl dL_law_540 ?_
  refine wl_iconst hX (v := 1) dL_law_541 (by decide) ?_
  refine wl_iadd hX dL_law_542 ?_
  refine wl_eqi (y := nI (i + 1)) (hx_ip1 i) ?_
  refine hS.1 543 (i + 1) _ _ _ _ (by omega) dL_law_543 ?_
  refine wl_aload_n hX 3 rfl dL_law_544 ?_
  refine wl_iload_n hX 0 rfl dL_law_545 ?_
  refine wl_iconst hX (v := 2) dL_law_546 (by decide) ?_
  refine wl_iadd hX dL_law_547 ?_
  refine wl_eqi (y := nI (i + 2)) (hx_ip2 i) ?_
  refine hS.1 548 (i + 2) _ _ _ _ (by omega) dL_law_548 ?_
  obtain ⟨I1, e1⟩ : ∃ I1, I1 = (hx_if (¬ (inF (xs (i + 1)) (nI P) = 0 ∨ inF (xs (i + 2)) (nI Q) = 0)) (ffM I P Q (xN (xs (i + 1)))) I) := ⟨_, rfl⟩
  refine wl_cVi hX (c_X4_answer hi I J (xs (i + 1)) (xs (i + 2)) P h.1.1.1 h.1.1.2.2 Q h.1.2.1.1 h.1.2.1.2.2) mv_X4_answer tb_334 (by decide) rfl rfl rfl rfl (by omega) (Nat.le_of_ble_eq_true rfl) dL_law_549 ?_
  refine wl_mem e1.symm rfl ?_
  refine wl_aload_n hX 1 rfl dL_law_552 ?_
  refine wl_aload_n hX 3 rfl dL_law_553 ?_
  refine wl_iload_n hX 0 rfl dL_law_554 ?_
  refine wl_iconst hX (v := 1) dL_law_555 (by decide) ?_
  refine wl_iadd hX dL_law_556 ?_
  refine wl_eqi (y := nI (i + 1)) (hx_ip1 i) ?_
  refine hS.1 557 (i + 1) _ _ _ _ (by omega) dL_law_557 ?_
  refine wl_aload_n hX 3 rfl dL_law_558 ?_
  refine wl_iload_n hX 0 rfl dL_law_559 ?_
  refine wl_iconst hX (v := 2) dL_law_560 (by decide) ?_
  refine wl_iadd hX dL_law_561 ?_
  refine wl_eqi (y := nI (i + 2)) (hx_ip2 i) ?_
  refine hS.1 562 (i + 2) _ _ _ _ (by omega) dL_law_562 ?_
  obtain ⟨I2, e2⟩ : ∃ I2, I2 = (hx_if (¬ (inF (xs (i + 1)) (nI P) = 0 ∨ inF (xs (i + 2)) (nI Q) = 0)) (fmM I1 P Q (xN (xs (i + 1)))) I1) := ⟨_, rfl⟩
  obtain ⟨k1, k2⟩ := op_find h e1 e2
  refine wl_cVi hX (c_X5_answer hi I1 J (xs (i + 1)) (xs (i + 2)) P k1.1.1.2.1 k1.1.1.2.2 Q k1.1.2.1.2.1 k1.1.2.1.2.2) mv_X5_answer tb_677 (by decide) rfl rfl rfl rfl (by omega) (Nat.le_of_ble_eq_true rfl) dL_law_563 ?_
  refine wl_mem e2.symm rfl ?_
  refine wl_icmp_eq hX (tgt := 954) dL_law_566 (by decide) (fun h8 => ?_) (fun h8 => absurd (re_answer k1.1 _ _) h8)
  exact kk I2 J ⟨_, _, _, k2⟩

set_option maxHeartbeats 400000 in
theorem law_take {l : Launch} {D : va_G} {ad : Nat → Nat} {cy : Nat → ClassId} {b L i : Nat} {xs : Nat → Int32} {X : HX} (hi : hx_inj ad) (hX : Rl l D ad cy RL cL_law 4 13 X) (hS : Sc X b L xs) (h4 : i + 4 ≤ L) (hL : L ≤ 2048) {I : MI} {J : MJ} {P Q R : Nat} (h : Rel2 I I P Q R) (kk : ∀ I2 J2, lawV I2 → X 954 [(3, .int (nI i)), (2, .ref (ad 5)), (1, .ref (ad 0)), (0, .ref b)] [] I2 J2) : X 571 [(3, .int (nI i)), (2, .ref (ad 5)), (1, .ref (ad 0)), (0, .ref b)] [] I J := by
  refine wl_aload_n hX 2 rfl dL_law_571 ?_
  refine wl_aload_n hX 3 rfl dL_law_572 ?_
  refine wl_iload_n hX 0 rfl dL_law_573 ?_
  refine wl_iconst hX (v := 1) dL_law_574 (by decide) ?_
  refine wl_iadd hX dL_law_575 ?_
  refine wl_eqi (y := nI (i + 1)) (hx_ip1 i) ?_
  refine hS.1 576 (i + 1) _ _ _ _ (by omega) dL_law_576 ?_
  obtain ⟨I1, e1⟩ : ∃ I1, I1 = (hx_if (takeW P (I 7) (xs (i + 1))) (hx_cp (ffM I P Q (xN (xs (i + 1)))) 15 (33 + xN (xs (i + 1))) Q) I) := ⟨_, rfl⟩
  refine wl_cVi hX (c_X4_take hi I J (xs (i + 1)) P h.1.1.1 h.1.1.2.2 Q h.1.2.1.1 h.1.2.1.2.2) mv_X4_take tb_338 (by decide) rfl rfl rfl rfl (by omega) (Nat.le_of_ble_eq_true rfl) dL_law_577 ?_
  refine wl_mem e1.symm rfl ?_
  refine wl_aload_n hX 1 rfl dL_law_580 ?_
  refine wl_aload_n hX 3 rfl dL_law_581 ?_
  refine wl_iload_n hX 0 rfl dL_law_582 ?_
  refine wl_iconst hX (v := 1) dL_law_583 (by decide) ?_
  refine wl_iadd hX dL_law_584 ?_
  refine wl_eqi (y := nI (i + 1)) (hx_ip1 i) ?_
  refine hS.1 585 (i + 1) _ _ _ _ (by omega) dL_law_585 ?_
  obtain ⟨I2, e2⟩ : ∃ I2, I2 = (hx_if (takeW P (I1 21) (xs (i + 1))) (adM (fmM I1 P Q (xN (xs (i + 1)))) (xN (xs (i + 1))) Q) I1) := ⟨_, rfl⟩
  obtain ⟨k1, k2, k3⟩ := op_take h e1 e2
  refine wl_cVi hX (c_X5_take hi I1 J (xs (i + 1)) P k1.1.1.2.1 k1.1.1.2.2 Q k1.1.2.1.2.1 k1.1.2.1.2.2) mv_X5_take tb_681 (by decide) rfl rfl rfl rfl (by omega) (Nat.le_of_ble_eq_true rfl) dL_law_586 ?_
  refine wl_mem e2.symm rfl ?_
  refine wl_icmp_eq hX (tgt := 954) dL_law_589 (by decide) (fun h8 => ?_) (fun h8 => absurd k3 h8)
  exact kk I2 J ⟨_, _, _, k2⟩

set_option maxHeartbeats 400000 in
theorem law_play {l : Launch} {D : va_G} {ad : Nat → Nat} {cy : Nat → ClassId} {b L i : Nat} {xs : Nat → Int32} {X : HX} (hi : hx_inj ad) (hX : Rl l D ad cy RL cL_law 4 13 X) (hS : Sc X b L xs) (h4 : i + 4 ≤ L) (hL : L ≤ 2048) {I : MI} {J : MJ} {P Q R : Nat} (h : Rel2 I I P Q R) (kk : ∀ I2 J2, lawV I2 → X 954 [(3, .int (nI i)), (2, .ref (ad 5)), (1, .ref (ad 0)), (0, .ref b)] [] I2 J2) : X 594 [(3, .int (nI i)), (2, .ref (ad 5)), (1, .ref (ad 0)), (0, .ref b)] [] I J := by
  refine wl_aload_n hX 2 rfl dL_law_594 ?_
  refine wl_aload_n hX 3 rfl dL_law_595 ?_
  refine wl_iload_n hX 0 rfl dL_law_596 ?_
  refine wl_iconst hX (v := 1) dL_law_597 (by decide) ?_
  refine wl_iadd hX dL_law_598 ?_
  refine wl_eqi (y := nI (i + 1)) (hx_ip1 i) ?_
  refine hS.1 599 (i + 1) _ _ _ _ (by omega) dL_law_599 ?_
  obtain ⟨I1, e1⟩ : ∃ I1, I1 = (hx_if (¬ withinF (xs (i + 1)) 1 30 = 0) (plF P Q (xN (xs (i + 1))) 0 (pl0 I, ntF (pl0 I) P Q 0 J)).2.1 I) := ⟨_, rfl⟩
  obtain ⟨J1, f1⟩ : ∃ J1, J1 = (hx_if (¬ withinF (xs (i + 1)) 1 30 = 0) (plF P Q (xN (xs (i + 1))) 0 (pl0 I, ntF (pl0 I) P Q 0 J)).2.2 J) := ⟨_, rfl⟩
  refine wl_cVi hX (c_X4_play hi I J (xs (i + 1)) P h.1.1.1 h.1.1.2.2 Q h.1.2.1.1 h.1.2.1.2.2) mv_X4_play tb_346 (by decide) rfl rfl rfl rfl (by omega) (Nat.le_of_ble_eq_true rfl) dL_law_600 ?_
  refine wl_mem e1.symm f1.symm ?_
  refine wl_aload_n hX 1 rfl dL_law_603 ?_
  refine wl_aload_n hX 3 rfl dL_law_604 ?_
  refine wl_iload_n hX 0 rfl dL_law_605 ?_
  refine wl_iconst hX (v := 1) dL_law_606 (by decide) ?_
  refine wl_iadd hX dL_law_607 ?_
  refine wl_eqi (y := nI (i + 1)) (hx_ip1 i) ?_
  refine hS.1 608 (i + 1) _ _ _ _ (by omega) dL_law_608 ?_
  obtain ⟨I2, e2⟩ : ∃ I2, I2 = (hx_if (¬ withinF (xs (i + 1)) 1 30 = 0) (mpF P Q (xN (xs (i + 1))) 0 (mp0 I1)).2 I1) := ⟨_, rfl⟩
  obtain ⟨k2, k3, k4⟩ := op_play h e1 e2
  refine wl_cVi hX (c_X5_play hi I1 J1 (xs (i + 1)) P k4.1 h.1.1.2.2 Q k4.2 h.1.2.1.2.2) mv_X5_play tb_689 (by decide) rfl rfl rfl rfl (by omega) (Nat.le_of_ble_eq_true rfl) dL_law_609 ?_
  refine wl_mem e2.symm rfl ?_
  refine wl_icmp_eq hX (tgt := 954) dL_law_612 (by decide) (fun h8 => ?_) (fun h8 => absurd k3 h8)
  exact kk I2 J1 ⟨_, _, _, k2⟩

set_option maxHeartbeats 400000 in
theorem law_ended {l : Launch} {D : va_G} {ad : Nat → Nat} {cy : Nat → ClassId} {b L i : Nat} {xs : Nat → Int32} {X : HX} (hi : hx_inj ad) (hX : Rl l D ad cy RL cL_law 4 13 X) (hS : Sc X b L xs) (h4 : i + 4 ≤ L) (hL : L ≤ 2048) {I : MI} {J : MJ} {P Q R : Nat} (h : Rel2 I I P Q R) (kk : ∀ I2 J2, lawV I2 → X 954 [(3, .int (nI i)), (2, .ref (ad 5)), (1, .ref (ad 0)), (0, .ref b)] [] I2 J2) : X 617 [(3, .int (nI i)), (2, .ref (ad 5)), (1, .ref (ad 0)), (0, .ref b)] [] I J := by
  refine wl_aload_n hX 2 rfl dL_law_617 ?_
  obtain ⟨I1, e1⟩ : ∃ I1, I1 = I := ⟨_, rfl⟩
  refine wl_cVi hX (c_X4_ended hi I J) mv_X4_ended tb_379 (by decide) rfl rfl rfl rfl (by omega) (Nat.le_of_ble_eq_true rfl) dL_law_618 ?_
  refine wl_mem e1.symm rfl ?_
  refine wl_aload_n hX 1 rfl dL_law_621 ?_
  obtain ⟨I2, e2⟩ : ∃ I2, I2 = I1 := ⟨_, rfl⟩
  obtain ⟨k1, k2⟩ := opN h e1 e2
  refine wl_cVi hX (c_X5_ended hi I1 J) mv_X5_ended tb_701 (by decide) rfl rfl rfl rfl (by omega) (Nat.le_of_ble_eq_true rfl) dL_law_622 ?_
  refine wl_mem e2.symm rfl ?_
  refine wl_icmp_eq hX (tgt := 954) dL_law_625 (by decide) (fun h8 => ?_) (fun h8 => absurd k1.2.2.2.1 h8)
  exact kk I2 J ⟨_, _, _, k2⟩

set_option maxHeartbeats 400000 in
theorem law_ring {l : Launch} {D : va_G} {ad : Nat → Nat} {cy : Nat → ClassId} {b L i : Nat} {xs : Nat → Int32} {X : HX} (hi : hx_inj ad) (hX : Rl l D ad cy RL cL_law 4 13 X) (hS : Sc X b L xs) (h4 : i + 4 ≤ L) (hL : L ≤ 2048) {I : MI} {J : MJ} {P Q R : Nat} (h : Rel2 I I P Q R) (kk : ∀ I2 J2, lawV I2 → X 954 [(3, .int (nI i)), (2, .ref (ad 5)), (1, .ref (ad 0)), (0, .ref b)] [] I2 J2) : X 630 [(3, .int (nI i)), (2, .ref (ad 5)), (1, .ref (ad 0)), (0, .ref b)] [] I J := by
  refine wl_aload_n hX 2 rfl dL_law_630 ?_
  obtain ⟨I1, e1⟩ : ∃ I1, I1 = I := ⟨_, rfl⟩
  refine wl_cVi hX (c_X4_ring hi I J) mv_X4_ring tb_383 (by decide) rfl rfl rfl rfl (by omega) (Nat.le_of_ble_eq_true rfl) dL_law_631 ?_
  refine wl_mem e1.symm rfl ?_
  refine wl_aload_n hX 1 rfl dL_law_634 ?_
  obtain ⟨I2, e2⟩ : ∃ I2, I2 = I1 := ⟨_, rfl⟩
  obtain ⟨k1, k2⟩ := opN h e1 e2
  refine wl_cVi hX (c_X5_ring hi I1 J) mv_X5_ring tb_705 (by decide) rfl rfl rfl rfl (by omega) (Nat.le_of_ble_eq_true rfl) dL_law_635 ?_
  refine wl_mem e2.symm rfl ?_
  refine wl_icmp_eq hX (tgt := 954) dL_law_638 (by decide) (fun h8 => ?_) (fun h8 => absurd k1.2.2.2.2 h8)
  exact kk I2 J ⟨_, _, _, k2⟩

set_option maxHeartbeats 400000 in
theorem law_gift {l : Launch} {D : va_G} {ad : Nat → Nat} {cy : Nat → ClassId} {b L i : Nat} {xs : Nat → Int32} {X : HX} (hi : hx_inj ad) (hX : Rl l D ad cy RL cL_law 4 13 X) (hS : Sc X b L xs) (h4 : i + 4 ≤ L) (hL : L ≤ 2048) {I : MI} {J : MJ} {P Q R : Nat} (h : Rel2 I I P Q R) (kk : ∀ I2 J2, lawV I2 → X 954 [(3, .int (nI i)), (2, .ref (ad 5)), (1, .ref (ad 0)), (0, .ref b)] [] I2 J2) : X 643 [(3, .int (nI i)), (2, .ref (ad 5)), (1, .ref (ad 0)), (0, .ref b)] [] I J := by
  refine wl_aload_n hX 2 rfl dL_law_643 ?_
  refine wl_aload_n hX 3 rfl dL_law_644 ?_
  refine wl_iload_n hX 0 rfl dL_law_645 ?_
  refine wl_iconst hX (v := 1) dL_law_646 (by decide) ?_
  refine wl_iadd hX dL_law_647 ?_
  refine wl_eqi (y := nI (i + 1)) (hx_ip1 i) ?_
  refine hS.1 648 (i + 1) _ _ _ _ (by omega) dL_law_648 ?_
  refine wl_aload_n hX 3 rfl dL_law_649 ?_
  refine wl_iload_n hX 0 rfl dL_law_650 ?_
  refine wl_iconst hX (v := 2) dL_law_651 (by decide) ?_
  refine wl_iadd hX dL_law_652 ?_
  refine wl_eqi (y := nI (i + 2)) (hx_ip2 i) ?_
  refine hS.1 653 (i + 2) _ _ _ _ (by omega) dL_law_653 ?_
  refine wl_aload_n hX 3 rfl dL_law_654 ?_
  refine wl_iload_n hX 0 rfl dL_law_655 ?_
  refine wl_iconst hX (v := 3) dL_law_656 (by decide) ?_
  refine wl_iadd hX dL_law_657 ?_
  refine wl_eqi (y := nI (i + 3)) (hx_ip3 i) ?_
  refine hS.1 658 (i + 3) _ _ _ _ (by omega) dL_law_658 ?_
  obtain ⟨I1, e1⟩ : ∃ I1, I1 = (hx_if (wasW P R 0 1000000 (xs (i + 1)) (xs (i + 2)) (xs (i + 3))) (hx_u I (100 + xN (xs (i + 1))) (xN (xs (i + 2))) (xs (i + 3))) I) := ⟨_, rfl⟩
  refine wl_cVi hX (c_X4_gift hi I J (xs (i + 1)) (xs (i + 2)) (xs (i + 3)) P h.1.1.1 h.1.1.2.2 R h.1.2.2.1.1 h.1.2.2.1.2.2) mv_X4_gift tb_387 (by decide) rfl rfl rfl rfl (by omega) (Nat.le_of_ble_eq_true rfl) dL_law_659 ?_
  refine wl_mem e1.symm rfl ?_
  refine wl_aload_n hX 1 rfl dL_law_662 ?_
  refine wl_aload_n hX 3 rfl dL_law_663 ?_
  refine wl_iload_n hX 0 rfl dL_law_664 ?_
  refine wl_iconst hX (v := 1) dL_law_665 (by decide) ?_
  refine wl_iadd hX dL_law_666 ?_
  refine wl_eqi (y := nI (i + 1)) (hx_ip1 i) ?_
  refine hS.1 667 (i + 1) _ _ _ _ (by omega) dL_law_667 ?_
  refine wl_aload_n hX 3 rfl dL_law_668 ?_
  refine wl_iload_n hX 0 rfl dL_law_669 ?_
  refine wl_iconst hX (v := 2) dL_law_670 (by decide) ?_
  refine wl_iadd hX dL_law_671 ?_
  refine wl_eqi (y := nI (i + 2)) (hx_ip2 i) ?_
  refine hS.1 672 (i + 2) _ _ _ _ (by omega) dL_law_672 ?_
  refine wl_aload_n hX 3 rfl dL_law_673 ?_
  refine wl_iload_n hX 0 rfl dL_law_674 ?_
  refine wl_iconst hX (v := 3) dL_law_675 (by decide) ?_
  refine wl_iadd hX dL_law_676 ?_
  refine wl_eqi (y := nI (i + 3)) (hx_ip3 i) ?_
  refine hS.1 677 (i + 3) _ _ _ _ (by omega) dL_law_677 ?_
  obtain ⟨I2, e2⟩ : ∃ I2, I2 = (hx_if (wasW P R 0 1000000 (xs (i + 1)) (xs (i + 2)) (xs (i + 3))) (hx_u I1 24 (6 * xN (xs (i + 1)) + xN (xs (i + 2))) (xs (i + 3))) I1) := ⟨_, rfl⟩
  obtain ⟨k1, k2⟩ := op_gift h e1 e2
  refine wl_cVi hX (c_X5_gift hi I1 J (xs (i + 1)) (xs (i + 2)) (xs (i + 3)) P k1.1.1.2.1 k1.1.1.2.2 R k1.1.2.2.1.2.1 k1.1.2.2.1.2.2) mv_X5_gift tb_709 (by decide) rfl rfl rfl rfl (by omega) (Nat.le_of_ble_eq_true rfl) dL_law_678 ?_
  refine wl_mem e2.symm rfl ?_
  refine wl_icmp_eq hX (tgt := 954) dL_law_681 (by decide) (fun h8 => ?_) (fun h8 => absurd (re_gift k1.1 _ _ _) h8)
  exact kk I2 J ⟨_, _, _, k2⟩

set_option maxHeartbeats 400000 in
theorem law_bond {l : Launch} {D : va_G} {ad : Nat → Nat} {cy : Nat → ClassId} {b L i : Nat} {xs : Nat → Int32} {X : HX} (hi : hx_inj ad) (hX : Rl l D ad cy RL cL_law 4 13 X) (hS : Sc X b L xs) (h4 : i + 4 ≤ L) (hL : L ≤ 2048) {I : MI} {J : MJ} {P Q R : Nat} (h : Rel2 I I P Q R) (kk : ∀ I2 J2, lawV I2 → X 954 [(3, .int (nI i)), (2, .ref (ad 5)), (1, .ref (ad 0)), (0, .ref b)] [] I2 J2) : X 686 [(3, .int (nI i)), (2, .ref (ad 5)), (1, .ref (ad 0)), (0, .ref b)] [] I J := by
  refine wl_aload_n hX 2 rfl dL_law_686 ?_
  refine wl_aload_n hX 3 rfl dL_law_687 ?_
  refine wl_iload_n hX 0 rfl dL_law_688 ?_
  refine wl_iconst hX (v := 1) dL_law_689 (by decide) ?_
  refine wl_iadd hX dL_law_690 ?_
  refine wl_eqi (y := nI (i + 1)) (hx_ip1 i) ?_
  refine hS.1 691 (i + 1) _ _ _ _ (by omega) dL_law_691 ?_
  refine wl_aload_n hX 3 rfl dL_law_692 ?_
  refine wl_iload_n hX 0 rfl dL_law_693 ?_
  refine wl_iconst hX (v := 2) dL_law_694 (by decide) ?_
  refine wl_iadd hX dL_law_695 ?_
  refine wl_eqi (y := nI (i + 2)) (hx_ip2 i) ?_
  refine hS.1 696 (i + 2) _ _ _ _ (by omega) dL_law_696 ?_
  refine wl_aload_n hX 3 rfl dL_law_697 ?_
  refine wl_iload_n hX 0 rfl dL_law_698 ?_
  refine wl_iconst hX (v := 3) dL_law_699 (by decide) ?_
  refine wl_iadd hX dL_law_700 ?_
  refine wl_eqi (y := nI (i + 3)) (hx_ip3 i) ?_
  refine hS.1 701 (i + 3) _ _ _ _ (by omega) dL_law_701 ?_
  obtain ⟨I1, e1⟩ : ∃ I1, I1 = (hx_if (bondW P (xs (i + 1)) (xs (i + 2)) (xs (i + 3))) (hx_u (hx_u I (112 + xN (xs (i + 1))) (xN (xs (i + 2))) (xs (i + 3))) (112 + xN (xs (i + 2))) (xN (xs (i + 1))) (xs (i + 3))) I) := ⟨_, rfl⟩
  refine wl_cVi hX (c_X4_bond hi I J (xs (i + 1)) (xs (i + 2)) (xs (i + 3)) P h.1.1.1 h.1.1.2.2) mv_X4_bond tb_396 (by decide) rfl rfl rfl rfl (by omega) (Nat.le_of_ble_eq_true rfl) dL_law_702 ?_
  refine wl_mem e1.symm rfl ?_
  refine wl_aload_n hX 1 rfl dL_law_705 ?_
  refine wl_aload_n hX 3 rfl dL_law_706 ?_
  refine wl_iload_n hX 0 rfl dL_law_707 ?_
  refine wl_iconst hX (v := 1) dL_law_708 (by decide) ?_
  refine wl_iadd hX dL_law_709 ?_
  refine wl_eqi (y := nI (i + 1)) (hx_ip1 i) ?_
  refine hS.1 710 (i + 1) _ _ _ _ (by omega) dL_law_710 ?_
  refine wl_aload_n hX 3 rfl dL_law_711 ?_
  refine wl_iload_n hX 0 rfl dL_law_712 ?_
  refine wl_iconst hX (v := 2) dL_law_713 (by decide) ?_
  refine wl_iadd hX dL_law_714 ?_
  refine wl_eqi (y := nI (i + 2)) (hx_ip2 i) ?_
  refine hS.1 715 (i + 2) _ _ _ _ (by omega) dL_law_715 ?_
  refine wl_aload_n hX 3 rfl dL_law_716 ?_
  refine wl_iload_n hX 0 rfl dL_law_717 ?_
  refine wl_iconst hX (v := 3) dL_law_718 (by decide) ?_
  refine wl_iadd hX dL_law_719 ?_
  refine wl_eqi (y := nI (i + 3)) (hx_ip3 i) ?_
  refine hS.1 720 (i + 3) _ _ _ _ (by omega) dL_law_720 ?_
  obtain ⟨I2, e2⟩ : ∃ I2, I2 = (hx_if (bondW P (xs (i + 1)) (xs (i + 2)) (xs (i + 3))) (hx_u (hx_u I1 25 (12 * xN (xs (i + 1)) + xN (xs (i + 2))) (xs (i + 3))) 25 (12 * xN (xs (i + 2)) + xN (xs (i + 1))) (xs (i + 3))) I1) := ⟨_, rfl⟩
  obtain ⟨k1, k2⟩ := op_bond h e1 e2
  refine wl_cVi hX (c_X5_bond hi I1 J (xs (i + 1)) (xs (i + 2)) (xs (i + 3)) P k1.1.1.2.1 k1.1.1.2.2) mv_X5_bond tb_718 (by decide) rfl rfl rfl rfl (by omega) (Nat.le_of_ble_eq_true rfl) dL_law_721 ?_
  refine wl_mem e2.symm rfl ?_
  refine wl_icmp_eq hX (tgt := 954) dL_law_724 (by decide) (fun h8 => ?_) (fun h8 => absurd (re_bond k1.1 _ _ _) h8)
  exact kk I2 J ⟨_, _, _, k2⟩

set_option maxHeartbeats 400000 in
theorem law_matched {l : Launch} {D : va_G} {ad : Nat → Nat} {cy : Nat → ClassId} {b L i : Nat} {xs : Nat → Int32} {X : HX} (hi : hx_inj ad) (hX : Rl l D ad cy RL cL_law 4 13 X) (hS : Sc X b L xs) (h4 : i + 4 ≤ L) (hL : L ≤ 2048) {I : MI} {J : MJ} {P Q R : Nat} (h : Rel2 I I P Q R) (kk : ∀ I2 J2, lawV I2 → X 954 [(3, .int (nI i)), (2, .ref (ad 5)), (1, .ref (ad 0)), (0, .ref b)] [] I2 J2) : X 729 [(3, .int (nI i)), (2, .ref (ad 5)), (1, .ref (ad 0)), (0, .ref b)] [] I J := by
  refine wl_aload_n hX 2 rfl dL_law_729 ?_
  refine wl_aload_n hX 3 rfl dL_law_730 ?_
  refine wl_iload_n hX 0 rfl dL_law_731 ?_
  refine wl_iconst hX (v := 1) dL_law_732 (by decide) ?_
  refine wl_iadd hX dL_law_733 ?_
  refine wl_eqi (y := nI (i + 1)) (hx_ip1 i) ?_
  refine hS.1 734 (i + 1) _ _ _ _ (by omega) dL_law_734 ?_
  refine wl_aload_n hX 3 rfl dL_law_735 ?_
  refine wl_iload_n hX 0 rfl dL_law_736 ?_
  refine wl_iconst hX (v := 2) dL_law_737 (by decide) ?_
  refine wl_iadd hX dL_law_738 ?_
  refine wl_eqi (y := nI (i + 2)) (hx_ip2 i) ?_
  refine hS.1 739 (i + 2) _ _ _ _ (by omega) dL_law_739 ?_
  obtain ⟨I1, e1⟩ : ∃ I1, I1 = I := ⟨_, rfl⟩
  refine wl_cVl hX (c_X4_matched hi I J (xs (i + 1)) (xs (i + 2)) P h.1.1.1 h.1.1.2.2 R h.1.2.2.1.1 h.1.2.2.1.2.2) mv_X4_matched tb_400 (by decide) rfl rfl rfl rfl (by omega) (Nat.le_of_ble_eq_true rfl) dL_law_740 ?_
  refine wl_mem e1.symm rfl ?_
  refine wl_aload_n hX 1 rfl dL_law_743 ?_
  refine wl_aload_n hX 3 rfl dL_law_744 ?_
  refine wl_iload_n hX 0 rfl dL_law_745 ?_
  refine wl_iconst hX (v := 1) dL_law_746 (by decide) ?_
  refine wl_iadd hX dL_law_747 ?_
  refine wl_eqi (y := nI (i + 1)) (hx_ip1 i) ?_
  refine hS.1 748 (i + 1) _ _ _ _ (by omega) dL_law_748 ?_
  refine wl_aload_n hX 3 rfl dL_law_749 ?_
  refine wl_iload_n hX 0 rfl dL_law_750 ?_
  refine wl_iconst hX (v := 2) dL_law_751 (by decide) ?_
  refine wl_iadd hX dL_law_752 ?_
  refine wl_eqi (y := nI (i + 2)) (hx_ip2 i) ?_
  refine hS.1 753 (i + 2) _ _ _ _ (by omega) dL_law_753 ?_
  obtain ⟨I2, e2⟩ : ∃ I2, I2 = I1 := ⟨_, rfl⟩
  obtain ⟨k1, k2⟩ := opN h e1 e2
  refine wl_cVl hX (c_X5_matched hi I1 J (xs (i + 1)) (xs (i + 2)) P k1.1.1.2.1 k1.1.1.2.2 R k1.1.2.2.1.2.1 k1.1.2.2.1.2.2) mv_X5_matched tb_722 (by decide) rfl rfl rfl rfl (by omega) (Nat.le_of_ble_eq_true rfl) dL_law_754 ?_
  refine wl_mem e2.symm rfl ?_
  refine wl_lif_eq hX (tgt := 954) dL_law_757 dL_law_758 (by decide) (fun h8 => ?_) (fun h8 => absurd (re_matched k1.1 _ _) h8)
  exact kk I2 J ⟨_, _, _, k2⟩

set_option maxHeartbeats 400000 in
theorem law_share {l : Launch} {D : va_G} {ad : Nat → Nat} {cy : Nat → ClassId} {b L i : Nat} {xs : Nat → Int32} {X : HX} (hi : hx_inj ad) (hX : Rl l D ad cy RL cL_law 4 13 X) (hS : Sc X b L xs) (h4 : i + 4 ≤ L) (hL : L ≤ 2048) {I : MI} {J : MJ} {P Q R : Nat} (h : Rel2 I I P Q R) (kk : ∀ I2 J2, lawV I2 → X 954 [(3, .int (nI i)), (2, .ref (ad 5)), (1, .ref (ad 0)), (0, .ref b)] [] I2 J2) : X 763 [(3, .int (nI i)), (2, .ref (ad 5)), (1, .ref (ad 0)), (0, .ref b)] [] I J := by
  refine wl_aload_n hX 2 rfl dL_law_763 ?_
  refine wl_aload_n hX 3 rfl dL_law_764 ?_
  refine wl_iload_n hX 0 rfl dL_law_765 ?_
  refine wl_iconst hX (v := 1) dL_law_766 (by decide) ?_
  refine wl_iadd hX dL_law_767 ?_
  refine wl_eqi (y := nI (i + 1)) (hx_ip1 i) ?_
  refine hS.1 768 (i + 1) _ _ _ _ (by omega) dL_law_768 ?_
  refine wl_aload_n hX 3 rfl dL_law_769 ?_
  refine wl_iload_n hX 0 rfl dL_law_770 ?_
  refine wl_iconst hX (v := 2) dL_law_771 (by decide) ?_
  refine wl_iadd hX dL_law_772 ?_
  refine wl_eqi (y := nI (i + 2)) (hx_ip2 i) ?_
  refine hS.1 773 (i + 2) _ _ _ _ (by omega) dL_law_773 ?_
  refine wl_i2l hX (v := (xs (i + 2)).toInt64) dL_law_774 rfl ?_
  refine wl_bipush hX (v := 32) dL_law_775 (by decide) ?_
  refine wl_lshl hX (v := ((xs (i + 2)).toInt64) <<< ((32 : Int32).toInt64 &&& 63)) dL_law_777 rfl ?_
  refine wl_aload_n hX 3 rfl dL_law_778 ?_
  refine wl_iload_n hX 0 rfl dL_law_779 ?_
  refine wl_iconst hX (v := 3) dL_law_780 (by decide) ?_
  refine wl_iadd hX dL_law_781 ?_
  refine wl_eqi (y := nI (i + 3)) (hx_ip3 i) ?_
  refine hS.1 782 (i + 3) _ _ _ _ (by omega) dL_law_782 ?_
  refine wl_i2l hX (v := (xs (i + 3)).toInt64) dL_law_783 rfl ?_
  refine wl_ldc2 hX tb_776 dL_law_784 ?_
  refine wl_land hX dL_law_787 ?_
  refine wl_lor hX dL_law_788 ?_
  obtain ⟨I1, e1⟩ : ∃ I1, I1 = I := ⟨_, rfl⟩
  obtain ⟨J1, f1⟩ : ∃ J1, J1 = (hx_if (shareW R (xs (i + 1)) ((((xs (i + 2)).toInt64) <<< ((32 : Int32).toInt64 &&& 63)) ||| (((xs (i + 3)).toInt64) &&& 4294967295))) (lwJ J 19 (mLowF (gC I) (bC I) P) R) J) := ⟨_, rfl⟩
  refine wl_cVl hX (c_X4_share hi I J (xs (i + 1)) ((((xs (i + 2)).toInt64) <<< ((32 : Int32).toInt64 &&& 63)) ||| (((xs (i + 3)).toInt64) &&& 4294967295)) P h.1.1.1 h.1.1.2.2 R h.1.2.2.1.1 h.1.2.2.1.2.2) mv_X4_share tb_428 (by decide) rfl rfl rfl rfl (by omega) (Nat.le_of_ble_eq_true rfl) dL_law_789 ?_
  refine wl_mem e1.symm f1.symm ?_
  refine wl_aload_n hX 1 rfl dL_law_792 ?_
  refine wl_aload_n hX 3 rfl dL_law_793 ?_
  refine wl_iload_n hX 0 rfl dL_law_794 ?_
  refine wl_iconst hX (v := 1) dL_law_795 (by decide) ?_
  refine wl_iadd hX dL_law_796 ?_
  refine wl_eqi (y := nI (i + 1)) (hx_ip1 i) ?_
  refine hS.1 797 (i + 1) _ _ _ _ (by omega) dL_law_797 ?_
  refine wl_aload_n hX 3 rfl dL_law_798 ?_
  refine wl_iload_n hX 0 rfl dL_law_799 ?_
  refine wl_iconst hX (v := 2) dL_law_800 (by decide) ?_
  refine wl_iadd hX dL_law_801 ?_
  refine wl_eqi (y := nI (i + 2)) (hx_ip2 i) ?_
  refine hS.1 802 (i + 2) _ _ _ _ (by omega) dL_law_802 ?_
  refine wl_i2l hX (v := (xs (i + 2)).toInt64) dL_law_803 rfl ?_
  refine wl_bipush hX (v := 32) dL_law_804 (by decide) ?_
  refine wl_lshl hX (v := ((xs (i + 2)).toInt64) <<< ((32 : Int32).toInt64 &&& 63)) dL_law_806 rfl ?_
  refine wl_aload_n hX 3 rfl dL_law_807 ?_
  refine wl_iload_n hX 0 rfl dL_law_808 ?_
  refine wl_iconst hX (v := 3) dL_law_809 (by decide) ?_
  refine wl_iadd hX dL_law_810 ?_
  refine wl_eqi (y := nI (i + 3)) (hx_ip3 i) ?_
  refine hS.1 811 (i + 3) _ _ _ _ (by omega) dL_law_811 ?_
  refine wl_i2l hX (v := (xs (i + 3)).toInt64) dL_law_812 rfl ?_
  refine wl_ldc2 hX tb_776 dL_law_813 ?_
  refine wl_land hX dL_law_816 ?_
  refine wl_lor hX dL_law_817 ?_
  obtain ⟨I2, e2⟩ : ∃ I2, I2 = I1 := ⟨_, rfl⟩
  obtain ⟨k1, k2⟩ := opN h e1 e2
  obtain ⟨J2, f2⟩ : ∃ J2, J2 = (hx_if (shareW R (xs (i + 1)) ((((xs (i + 2)).toInt64) <<< ((32 : Int32).toInt64 &&& 63)) ||| (((xs (i + 3)).toInt64) &&& 4294967295))) (mshJ J1 (msF I1 P) R ((((xs (i + 2)).toInt64) <<< ((32 : Int32).toInt64 &&& 63)) ||| (((xs (i + 3)).toInt64) &&& 4294967295))) J1) := ⟨_, rfl⟩
  refine wl_cVl hX (c_X5_share hi I1 J1 (xs (i + 1)) ((((xs (i + 2)).toInt64) <<< ((32 : Int32).toInt64 &&& 63)) ||| (((xs (i + 3)).toInt64) &&& 4294967295)) P k1.1.1.2.1 k1.1.1.2.2 R k1.1.2.2.1.2.1 k1.1.2.2.1.2.2) mv_X5_share tb_740 (by decide) rfl rfl rfl rfl (by omega) (Nat.le_of_ble_eq_true rfl) dL_law_818 ?_
  refine wl_mem e2.symm f2.symm ?_
  refine wl_lif_eq hX (tgt := 954) dL_law_821 dL_law_822 (by decide) (fun h8 => ?_) (fun h8 => absurd (re_share k1.1 _ _ _) h8)
  exact kk I2 J2 ⟨_, _, _, k2⟩

set_option maxHeartbeats 400000 in
theorem law_damped {l : Launch} {D : va_G} {ad : Nat → Nat} {cy : Nat → ClassId} {b L i : Nat} {xs : Nat → Int32} {X : HX} (hi : hx_inj ad) (hX : Rl l D ad cy RL cL_law 4 13 X) (hS : Sc X b L xs) (h4 : i + 4 ≤ L) (hL : L ≤ 2048) {I : MI} {J : MJ} {P Q R : Nat} (h : Rel2 I I P Q R) (kk : ∀ I2 J2, lawV I2 → X 954 [(3, .int (nI i)), (2, .ref (ad 5)), (1, .ref (ad 0)), (0, .ref b)] [] I2 J2) : X 827 [(3, .int (nI i)), (2, .ref (ad 5)), (1, .ref (ad 0)), (0, .ref b)] [] I J := by
  refine wl_aload_n hX 2 rfl dL_law_827 ?_
  refine wl_aload_n hX 3 rfl dL_law_828 ?_
  refine wl_iload_n hX 0 rfl dL_law_829 ?_
  refine wl_iconst hX (v := 1) dL_law_830 (by decide) ?_
  refine wl_iadd hX dL_law_831 ?_
  refine wl_eqi (y := nI (i + 1)) (hx_ip1 i) ?_
  refine hS.1 832 (i + 1) _ _ _ _ (by omega) dL_law_832 ?_
  obtain ⟨I1, e1⟩ : ∃ I1, I1 = I := ⟨_, rfl⟩
  refine wl_cVl hX (c_X4_damped hi I J (xs (i + 1)) P h.1.1.1 h.1.1.2.2 R h.1.2.2.1.1 h.1.2.2.1.2.2) mv_X4_damped tb_438 (by decide) rfl rfl rfl rfl (by omega) (Nat.le_of_ble_eq_true rfl) dL_law_833 ?_
  refine wl_mem e1.symm rfl ?_
  refine wl_aload_n hX 1 rfl dL_law_836 ?_
  refine wl_aload_n hX 3 rfl dL_law_837 ?_
  refine wl_iload_n hX 0 rfl dL_law_838 ?_
  refine wl_iconst hX (v := 1) dL_law_839 (by decide) ?_
  refine wl_iadd hX dL_law_840 ?_
  refine wl_eqi (y := nI (i + 1)) (hx_ip1 i) ?_
  refine hS.1 841 (i + 1) _ _ _ _ (by omega) dL_law_841 ?_
  obtain ⟨I2, e2⟩ : ∃ I2, I2 = I1 := ⟨_, rfl⟩
  obtain ⟨k1, k2⟩ := opN h e1 e2
  refine wl_cVl hX (c_X5_damped hi I1 J (xs (i + 1)) P k1.1.1.2.1 k1.1.1.2.2 R k1.1.2.2.1.2.1 k1.1.2.2.1.2.2) mv_X5_damped tb_746 (by decide) rfl rfl rfl rfl (by omega) (Nat.le_of_ble_eq_true rfl) dL_law_842 ?_
  refine wl_mem e2.symm rfl ?_
  refine wl_lif_eq hX (tgt := 954) dL_law_845 dL_law_846 (by decide) (fun h8 => ?_) (fun h8 => absurd (re_damped k1.1 _) h8)
  exact kk I2 J ⟨_, _, _, k2⟩

set_option maxHeartbeats 400000 in
theorem law_likeness {l : Launch} {D : va_G} {ad : Nat → Nat} {cy : Nat → ClassId} {b L i : Nat} {xs : Nat → Int32} {X : HX} (hi : hx_inj ad) (hX : Rl l D ad cy RL cL_law 4 13 X) (hS : Sc X b L xs) (h4 : i + 4 ≤ L) (hL : L ≤ 2048) {I : MI} {J : MJ} {P Q R : Nat} (h : Rel2 I I P Q R) (kk : ∀ I2 J2, lawV I2 → X 954 [(3, .int (nI i)), (2, .ref (ad 5)), (1, .ref (ad 0)), (0, .ref b)] [] I2 J2) : X 851 [(3, .int (nI i)), (2, .ref (ad 5)), (1, .ref (ad 0)), (0, .ref b)] [] I J := by
  refine wl_aload_n hX 2 rfl dL_law_851 ?_
  refine wl_aload_n hX 3 rfl dL_law_852 ?_
  refine wl_iload_n hX 0 rfl dL_law_853 ?_
  refine wl_iconst hX (v := 1) dL_law_854 (by decide) ?_
  refine wl_iadd hX dL_law_855 ?_
  refine wl_eqi (y := nI (i + 1)) (hx_ip1 i) ?_
  refine hS.1 856 (i + 1) _ _ _ _ (by omega) dL_law_856 ?_
  refine wl_aload_n hX 3 rfl dL_law_857 ?_
  refine wl_iload_n hX 0 rfl dL_law_858 ?_
  refine wl_iconst hX (v := 2) dL_law_859 (by decide) ?_
  refine wl_iadd hX dL_law_860 ?_
  refine wl_eqi (y := nI (i + 2)) (hx_ip2 i) ?_
  refine hS.1 861 (i + 2) _ _ _ _ (by omega) dL_law_861 ?_
  obtain ⟨I1, e1⟩ : ∃ I1, I1 = I := ⟨_, rfl⟩
  refine wl_cVi hX (c_X4_likeness hi I J (xs (i + 1)) (xs (i + 2)) P h.1.1.1 h.1.1.2.2 Q h.1.2.1.1 h.1.2.1.2.2) mv_X4_likeness tb_447 (by decide) rfl rfl rfl rfl (by omega) (Nat.le_of_ble_eq_true rfl) dL_law_862 ?_
  refine wl_mem e1.symm rfl ?_
  refine wl_aload_n hX 1 rfl dL_law_865 ?_
  refine wl_aload_n hX 3 rfl dL_law_866 ?_
  refine wl_iload_n hX 0 rfl dL_law_867 ?_
  refine wl_iconst hX (v := 1) dL_law_868 (by decide) ?_
  refine wl_iadd hX dL_law_869 ?_
  refine wl_eqi (y := nI (i + 1)) (hx_ip1 i) ?_
  refine hS.1 870 (i + 1) _ _ _ _ (by omega) dL_law_870 ?_
  refine wl_aload_n hX 3 rfl dL_law_871 ?_
  refine wl_iload_n hX 0 rfl dL_law_872 ?_
  refine wl_iconst hX (v := 2) dL_law_873 (by decide) ?_
  refine wl_iadd hX dL_law_874 ?_
  refine wl_eqi (y := nI (i + 2)) (hx_ip2 i) ?_
  refine hS.1 875 (i + 2) _ _ _ _ (by omega) dL_law_875 ?_
  obtain ⟨I2, e2⟩ : ∃ I2, I2 = I1 := ⟨_, rfl⟩
  obtain ⟨k1, k2⟩ := opN h e1 e2
  refine wl_cVi hX (c_X5_likeness hi I1 J (xs (i + 1)) (xs (i + 2)) P k1.1.1.2.1 k1.1.1.2.2 Q k1.1.2.1.2.1 k1.1.2.1.2.2) mv_X5_likeness tb_750 (by decide) rfl rfl rfl rfl (by omega) (Nat.le_of_ble_eq_true rfl) dL_law_876 ?_
  refine wl_mem e2.symm rfl ?_
  refine wl_icmp_eq hX (tgt := 954) dL_law_879 (by decide) (fun h8 => ?_) (fun h8 => absurd (re_likeness k1.1 _ _) h8)
  exact kk I2 J ⟨_, _, _, k2⟩

set_option maxHeartbeats 400000 in
theorem law_group {l : Launch} {D : va_G} {ad : Nat → Nat} {cy : Nat → ClassId} {b L i : Nat} {xs : Nat → Int32} {X : HX} (hi : hx_inj ad) (hX : Rl l D ad cy RL cL_law 4 13 X) (hS : Sc X b L xs) (h4 : i + 4 ≤ L) (hL : L ≤ 2048) {I : MI} {J : MJ} {P Q R : Nat} (h : Rel2 I I P Q R) (kk : ∀ I2 J2, lawV I2 → X 954 [(3, .int (nI i)), (2, .ref (ad 5)), (1, .ref (ad 0)), (0, .ref b)] [] I2 J2) : X 884 [(3, .int (nI i)), (2, .ref (ad 5)), (1, .ref (ad 0)), (0, .ref b)] [] I J := by
  refine wl_aload_n hX 2 rfl dL_law_884 ?_
  refine wl_aload_n hX 3 rfl dL_law_885 ?_
  refine wl_iload_n hX 0 rfl dL_law_886 ?_
  refine wl_iconst hX (v := 1) dL_law_887 (by decide) ?_
  refine wl_iadd hX dL_law_888 ?_
  refine wl_eqi (y := nI (i + 1)) (hx_ip1 i) ?_
  refine hS.1 889 (i + 1) _ _ _ _ (by omega) dL_law_889 ?_
  refine wl_aload_n hX 3 rfl dL_law_890 ?_
  refine wl_iload_n hX 0 rfl dL_law_891 ?_
  refine wl_iconst hX (v := 2) dL_law_892 (by decide) ?_
  refine wl_iadd hX dL_law_893 ?_
  refine wl_eqi (y := nI (i + 2)) (hx_ip2 i) ?_
  refine hS.1 894 (i + 2) _ _ _ _ (by omega) dL_law_894 ?_
  obtain ⟨I1, e1⟩ : ∃ I1, I1 = I := ⟨_, rfl⟩
  refine wl_cVi hX (c_X4_group hi I J (xs (i + 1)) (xs (i + 2)) P h.1.1.1 h.1.1.2.2 Q h.1.2.1.1 h.1.2.1.2.2) mv_X4_group tb_457 (by decide) rfl rfl rfl rfl (by omega) (Nat.le_of_ble_eq_true rfl) dL_law_895 ?_
  refine wl_mem e1.symm rfl ?_
  refine wl_aload_n hX 1 rfl dL_law_898 ?_
  refine wl_aload_n hX 3 rfl dL_law_899 ?_
  refine wl_iload_n hX 0 rfl dL_law_900 ?_
  refine wl_iconst hX (v := 1) dL_law_901 (by decide) ?_
  refine wl_iadd hX dL_law_902 ?_
  refine wl_eqi (y := nI (i + 1)) (hx_ip1 i) ?_
  refine hS.1 903 (i + 1) _ _ _ _ (by omega) dL_law_903 ?_
  refine wl_aload_n hX 3 rfl dL_law_904 ?_
  refine wl_iload_n hX 0 rfl dL_law_905 ?_
  refine wl_iconst hX (v := 2) dL_law_906 (by decide) ?_
  refine wl_iadd hX dL_law_907 ?_
  refine wl_eqi (y := nI (i + 2)) (hx_ip2 i) ?_
  refine hS.1 908 (i + 2) _ _ _ _ (by omega) dL_law_908 ?_
  obtain ⟨I2, e2⟩ : ∃ I2, I2 = I1 := ⟨_, rfl⟩
  obtain ⟨k1, k2⟩ := opN h e1 e2
  refine wl_cVi hX (c_X5_group hi I1 J (xs (i + 1)) (xs (i + 2)) P k1.1.1.2.1 k1.1.1.2.2 Q k1.1.2.1.2.1 k1.1.2.1.2.2) mv_X5_group tb_758 (by decide) rfl rfl rfl rfl (by omega) (Nat.le_of_ble_eq_true rfl) dL_law_909 ?_
  refine wl_mem e2.symm rfl ?_
  refine wl_icmp_eq hX (tgt := 954) dL_law_912 (by decide) (fun h8 => ?_) (fun h8 => absurd (re_group k1.1 _ _) h8)
  exact kk I2 J ⟨_, _, _, k2⟩

set_option maxHeartbeats 400000 in
theorem law_count {l : Launch} {D : va_G} {ad : Nat → Nat} {cy : Nat → ClassId} {b L i : Nat} {xs : Nat → Int32} {X : HX} (hi : hx_inj ad) (hX : Rl l D ad cy RL cL_law 4 13 X) (hS : Sc X b L xs) (h4 : i + 4 ≤ L) (hL : L ≤ 2048) {I : MI} {J : MJ} {P Q R : Nat} (h : Rel2 I I P Q R) (kk : ∀ I2 J2, lawV I2 → X 954 [(3, .int (nI i)), (2, .ref (ad 5)), (1, .ref (ad 0)), (0, .ref b)] [] I2 J2) : X 917 [(3, .int (nI i)), (2, .ref (ad 5)), (1, .ref (ad 0)), (0, .ref b)] [] I J := by
  refine wl_aload_n hX 2 rfl dL_law_917 ?_
  refine wl_aload_n hX 3 rfl dL_law_918 ?_
  refine wl_iload_n hX 0 rfl dL_law_919 ?_
  refine wl_iconst hX (v := 1) dL_law_920 (by decide) ?_
  refine wl_iadd hX dL_law_921 ?_
  refine wl_eqi (y := nI (i + 1)) (hx_ip1 i) ?_
  refine hS.1 922 (i + 1) _ _ _ _ (by omega) dL_law_922 ?_
  obtain ⟨I1, e1⟩ : ∃ I1, I1 = I := ⟨_, rfl⟩
  refine wl_cVi hX (c_X4_count hi I J (xs (i + 1)) P h.1.1.1 h.1.1.2.2 Q h.1.2.1.1 h.1.2.1.2.2 R h.1.2.2.1.1 h.1.2.2.1.2.2) mv_X4_count tb_470 (by decide) rfl rfl rfl rfl (by omega) (Nat.le_of_ble_eq_true rfl) dL_law_923 ?_
  refine wl_mem e1.symm rfl ?_
  refine wl_aload_n hX 1 rfl dL_law_926 ?_
  refine wl_aload_n hX 3 rfl dL_law_927 ?_
  refine wl_iload_n hX 0 rfl dL_law_928 ?_
  refine wl_iconst hX (v := 1) dL_law_929 (by decide) ?_
  refine wl_iadd hX dL_law_930 ?_
  refine wl_eqi (y := nI (i + 1)) (hx_ip1 i) ?_
  refine hS.1 931 (i + 1) _ _ _ _ (by omega) dL_law_931 ?_
  obtain ⟨I2, e2⟩ : ∃ I2, I2 = I1 := ⟨_, rfl⟩
  obtain ⟨k1, k2⟩ := opN h e1 e2
  refine wl_cVi hX (c_X5_count hi I1 J (xs (i + 1)) P k1.1.1.2.1 k1.1.1.2.2 Q k1.1.2.1.2.1 k1.1.2.1.2.2 R k1.1.2.2.1.2.1 k1.1.2.2.1.2.2) mv_X5_count tb_762 (by decide) rfl rfl rfl rfl (by omega) (Nat.le_of_ble_eq_true rfl) dL_law_932 ?_
  refine wl_mem e2.symm rfl ?_
  refine wl_icmp_eq hX (tgt := 954) dL_law_935 (by decide) (fun h8 => ?_) (fun h8 => absurd (re_count k1 _) h8)
  exact kk I2 J ⟨_, _, _, k2⟩

set_option maxHeartbeats 400000 in
theorem law_digest {l : Launch} {D : va_G} {ad : Nat → Nat} {cy : Nat → ClassId} {b L i : Nat} {xs : Nat → Int32} {X : HX} (hi : hx_inj ad) (hX : Rl l D ad cy RL cL_law 4 13 X) (hS : Sc X b L xs) (h4 : i + 4 ≤ L) (hL : L ≤ 2048) {I : MI} {J : MJ} {P Q R : Nat} (h : Rel2 I I P Q R) (kk : ∀ I2 J2, lawV I2 → X 954 [(3, .int (nI i)), (2, .ref (ad 5)), (1, .ref (ad 0)), (0, .ref b)] [] I2 J2) : X 940 [(3, .int (nI i)), (2, .ref (ad 5)), (1, .ref (ad 0)), (0, .ref b)] [] I J := by
  refine wl_aload_n hX 2 rfl dL_law_940 ?_
  obtain ⟨I1, e1⟩ : ∃ I1, I1 = I := ⟨_, rfl⟩
  refine wl_cVl hX (c_X4_digest hi I J P h.1.1.1 h.1.1.2.2 Q h.1.2.1.1 h.1.2.1.2.2 R h.1.2.2.1.1 h.1.2.2.1.2.2) mv_X4_digest tb_478 (by decide) rfl rfl rfl rfl (by omega) (Nat.le_of_ble_eq_true rfl) dL_law_941 ?_
  refine wl_mem e1.symm rfl ?_
  refine wl_aload_n hX 1 rfl dL_law_944 ?_
  obtain ⟨I2, e2⟩ : ∃ I2, I2 = I1 := ⟨_, rfl⟩
  obtain ⟨k1, k2⟩ := opN h e1 e2
  obtain ⟨J2, f2⟩ : ∃ J2, J2 = (hx_uJ J 5 24 (digestR (fun p z => dgFF (gM I1 p) (bM I1 p) R p (dgHF (I1 20 p) (I1 21 p) (vM I1 p) (wM I1 p) Q z)) P (I1 5 3) (I1 5 10) (I1 5 11))) := ⟨_, rfl⟩
  refine wl_cVl hX (c_X5_digest hi I1 J P k1.1.1.2.1 k1.1.1.2.2 Q k1.1.2.1.2.1 k1.1.2.1.2.2 R k1.1.2.2.1.2.1 k1.1.2.2.1.2.2) mv_X5_digest tb_766 (by decide) rfl rfl rfl rfl (by omega) (Nat.le_of_ble_eq_true rfl) dL_law_945 ?_
  refine wl_mem e2.symm f2.symm ?_
  refine wl_lif_eq hX (tgt := 954) dL_law_948 dL_law_949 (by decide) (fun h8 => ?_) (fun h8 => absurd (re_digest k1) h8)
  exact kk I2 J2 ⟨_, _, _, k2⟩

section
-- ===== PART A: goes FIRST, ahead of the names: the tables' words, and 'selects' of the private methods out of them =====
/-- a private method of a class that the tables say can be made, by its rows of tables_1 -/
def lw_okq (q : MethodName × Nat) : Prop := (q.1.cls ≠ "java/lang/invoke/MethodHandle" ∧ q.1.cls ≠ "java/lang/invoke/VarHandle") ∧ Cond.instantiable q.1.cls q.2 ∈ tables_1 ∧ Cond.privateMethod q.1 ∈ tables_1 ∧ Cond.instanceMethod q.1 ∈ tables_1
theorem lw_p0 : lw_okq (⟨"DearVotes$Search", "listChoices", "(III)V"⟩, 10) := ⟨⟨by decide +kernel, by decide +kernel⟩, List.mem_of_getElem? (i := 63) (by decide +kernel), List.mem_of_getElem? (i := 287) (by decide +kernel), List.mem_of_getElem? (i := 288) (by decide +kernel)⟩
theorem lw_p1 : lw_okq (⟨"DearVotes$Search", "addChoice", "(III)V"⟩, 10) := ⟨⟨by decide +kernel, by decide +kernel⟩, List.mem_of_getElem? (i := 63) (by decide +kernel), List.mem_of_getElem? (i := 292) (by decide +kernel), List.mem_of_getElem? (i := 293) (by decide +kernel)⟩
theorem lw_p2 : lw_okq (⟨"DearVotes$Search", "keepIfBetter", "(II)V"⟩, 10) := ⟨⟨by decide +kernel, by decide +kernel⟩, List.mem_of_getElem? (i := 63) (by decide +kernel), List.mem_of_getElem? (i := 299) (by decide +kernel), List.mem_of_getElem? (i := 300) (by decide +kernel)⟩
theorem lw_p3 : lw_okq (⟨"DearVotes$Search", "triedIsLess", "()Z"⟩, 10) := ⟨⟨by decide +kernel, by decide +kernel⟩, List.mem_of_getElem? (i := 63) (by decide +kernel), List.mem_of_getElem? (i := 303) (by decide +kernel), List.mem_of_getElem? (i := 304) (by decide +kernel)⟩
theorem lw_p4 : lw_okq (⟨"DearVotes$Rounds", "noteVoices", "(I)V"⟩, 7) := ⟨⟨by decide +kernel, by decide +kernel⟩, List.mem_of_getElem? (i := 104) (by decide +kernel), List.mem_of_getElem? (i := 330) (by decide +kernel), List.mem_of_getElem? (i := 331) (by decide +kernel)⟩
theorem lw_p5 : lw_okq (⟨"DearVotes$Rounds", "doRound", "()I"⟩, 7) := ⟨⟨by decide +kernel, by decide +kernel⟩, List.mem_of_getElem? (i := 104) (by decide +kernel), List.mem_of_getElem? (i := 340) (by decide +kernel), List.mem_of_getElem? (i := 341) (by decide +kernel)⟩
theorem lw_p6 : lw_okq (⟨"DearVotes$Rounds", "judge", "(II)V"⟩, 7) := ⟨⟨by decide +kernel, by decide +kernel⟩, List.mem_of_getElem? (i := 104) (by decide +kernel), List.mem_of_getElem? (i := 347) (by decide +kernel), List.mem_of_getElem? (i := 348) (by decide +kernel)⟩
theorem lw_p7 : lw_okq (⟨"DearVotes$Rounds", "isSameTrail", "(II)Z"⟩, 7) := ⟨⟨by decide +kernel, by decide +kernel⟩, List.mem_of_getElem? (i := 104) (by decide +kernel), List.mem_of_getElem? (i := 351) (by decide +kernel), List.mem_of_getElem? (i := 352) (by decide +kernel)⟩
theorem lw_p8 : lw_okq (⟨"DearVotes$Fund", "fineProduct", "(III)J"⟩, 5) := ⟨⟨by decide +kernel, by decide +kernel⟩, List.mem_of_getElem? (i := 139) (by decide +kernel), List.mem_of_getElem? (i := 386) (by decide +kernel), List.mem_of_getElem? (i := 387) (by decide +kernel)⟩
theorem lw_p9 : lw_okq (⟨"DearVotesModel", "isPerson", "(I)Z"⟩, 25) := ⟨⟨by decide +kernel, by decide +kernel⟩, List.mem_of_getElem? (i := 470) (by decide +kernel), List.mem_of_getElem? (i := 575) (by decide +kernel), List.mem_of_getElem? (i := 576) (by decide +kernel)⟩
theorem lw_p10 : lw_okq (⟨"DearVotesModel", "isQuestion", "(I)Z"⟩, 25) := ⟨⟨by decide +kernel, by decide +kernel⟩, List.mem_of_getElem? (i := 470) (by decide +kernel), List.mem_of_getElem? (i := 579) (by decide +kernel), List.mem_of_getElem? (i := 580) (by decide +kernel)⟩
theorem lw_p11 : lw_okq (⟨"DearVotesModel", "costOf", "(I)I"⟩, 25) := ⟨⟨by decide +kernel, by decide +kernel⟩, List.mem_of_getElem? (i := 470) (by decide +kernel), List.mem_of_getElem? (i := 583) (by decide +kernel), List.mem_of_getElem? (i := 584) (by decide +kernel)⟩
theorem lw_p12 : lw_okq (⟨"DearVotesModel", "others", "(II)I"⟩, 25) := ⟨⟨by decide +kernel, by decide +kernel⟩, List.mem_of_getElem? (i := 470) (by decide +kernel), List.mem_of_getElem? (i := 607) (by decide +kernel), List.mem_of_getElem? (i := 608) (by decide +kernel)⟩
theorem lw_p13 : lw_okq (⟨"DearVotesModel", "resultOf", "(II)I"⟩, 25) := ⟨⟨by decide +kernel, by decide +kernel⟩, List.mem_of_getElem? (i := 470) (by decide +kernel), List.mem_of_getElem? (i := 615) (by decide +kernel), List.mem_of_getElem? (i := 616) (by decide +kernel)⟩
theorem lw_p14 : lw_okq (⟨"DearVotesModel", "gainOf", "(I)I"⟩, 25) := ⟨⟨by decide +kernel, by decide +kernel⟩, List.mem_of_getElem? (i := 470) (by decide +kernel), List.mem_of_getElem? (i := 625) (by decide +kernel), List.mem_of_getElem? (i := 626) (by decide +kernel)⟩
theorem lw_p15 : lw_okq (⟨"DearVotesModel", "find", "(I)V"⟩, 25) := ⟨⟨by decide +kernel, by decide +kernel⟩, List.mem_of_getElem? (i := 470) (by decide +kernel), List.mem_of_getElem? (i := 641) (by decide +kernel), List.mem_of_getElem? (i := 642) (by decide +kernel)⟩
def lw_privs_1 : List (MethodName × Nat) := [(⟨"DearVotes$Search", "listChoices", "(III)V"⟩, 10), (⟨"DearVotes$Search", "addChoice", "(III)V"⟩, 10), (⟨"DearVotes$Search", "keepIfBetter", "(II)V"⟩, 10), (⟨"DearVotes$Search", "triedIsLess", "()Z"⟩, 10), (⟨"DearVotes$Rounds", "noteVoices", "(I)V"⟩, 7), (⟨"DearVotes$Rounds", "doRound", "()I"⟩, 7), (⟨"DearVotes$Rounds", "judge", "(II)V"⟩, 7), (⟨"DearVotes$Rounds", "isSameTrail", "(II)Z"⟩, 7), (⟨"DearVotes$Fund", "fineProduct", "(III)J"⟩, 5), (⟨"DearVotesModel", "isPerson", "(I)Z"⟩, 25), (⟨"DearVotesModel", "isQuestion", "(I)Z"⟩, 25), (⟨"DearVotesModel", "costOf", "(I)I"⟩, 25), (⟨"DearVotesModel", "others", "(II)I"⟩, 25), (⟨"DearVotesModel", "resultOf", "(II)I"⟩, 25), (⟨"DearVotesModel", "gainOf", "(I)I"⟩, 25), (⟨"DearVotesModel", "find", "(I)V"⟩, 25)]
theorem lw_r1 : ∀ q ∈ lw_privs_1, lw_okq q := List.forall_mem_cons.mpr ⟨lw_p0, List.forall_mem_cons.mpr ⟨lw_p1, List.forall_mem_cons.mpr ⟨lw_p2, List.forall_mem_cons.mpr ⟨lw_p3, List.forall_mem_cons.mpr ⟨lw_p4, List.forall_mem_cons.mpr ⟨lw_p5, List.forall_mem_cons.mpr ⟨lw_p6, List.forall_mem_cons.mpr ⟨lw_p7, List.forall_mem_cons.mpr ⟨lw_p8, List.forall_mem_cons.mpr ⟨lw_p9, List.forall_mem_cons.mpr ⟨lw_p10, List.forall_mem_cons.mpr ⟨lw_p11, List.forall_mem_cons.mpr ⟨lw_p12, List.forall_mem_cons.mpr ⟨lw_p13, List.forall_mem_cons.mpr ⟨lw_p14, List.forall_mem_cons.mpr ⟨lw_p15, fun _ h => absurd h List.not_mem_nil⟩⟩⟩⟩⟩⟩⟩⟩⟩⟩⟩⟩⟩⟩⟩⟩
theorem lw_p16 : lw_okq (⟨"DearVotesModel", "end", "(II)V"⟩, 25) := ⟨⟨by decide +kernel, by decide +kernel⟩, List.mem_of_getElem? (i := 470) (by decide +kernel), List.mem_of_getElem? (i := 645) (by decide +kernel), List.mem_of_getElem? (i := 646) (by decide +kernel)⟩
theorem lw_p17 : lw_okq (⟨"DearVotesModel", "isBetter", "(II)Z"⟩, 25) := ⟨⟨by decide +kernel, by decide +kernel⟩, List.mem_of_getElem? (i := 470) (by decide +kernel), List.mem_of_getElem? (i := 649) (by decide +kernel), List.mem_of_getElem? (i := 650) (by decide +kernel)⟩
theorem lw_p18 : lw_okq (⟨"DearVotesModel", "adopt", "(I)V"⟩, 25) := ⟨⟨by decide +kernel, by decide +kernel⟩, List.mem_of_getElem? (i := 470) (by decide +kernel), List.mem_of_getElem? (i := 661) (by decide +kernel), List.mem_of_getElem? (i := 662) (by decide +kernel)⟩
theorem lw_p19 : lw_okq (⟨"DearVotesModel", "keep", "(I)V"⟩, 25) := ⟨⟨by decide +kernel, by decide +kernel⟩, List.mem_of_getElem? (i := 470) (by decide +kernel), List.mem_of_getElem? (i := 669) (by decide +kernel), List.mem_of_getElem? (i := 670) (by decide +kernel)⟩
theorem lw_p20 : lw_okq (⟨"DearVotesModel", "isAsBehind", "(I)Z"⟩, 25) := ⟨⟨by decide +kernel, by decide +kernel⟩, List.mem_of_getElem? (i := 470) (by decide +kernel), List.mem_of_getElem? (i := 673) (by decide +kernel), List.mem_of_getElem? (i := 674) (by decide +kernel)⟩
theorem lw_p21 : lw_okq (⟨"DearVotesModel", "isProject", "(I)Z"⟩, 25) := ⟨⟨by decide +kernel, by decide +kernel⟩, List.mem_of_getElem? (i := 470) (by decide +kernel), List.mem_of_getElem? (i := 689) (by decide +kernel), List.mem_of_getElem? (i := 690) (by decide +kernel)⟩
theorem lw_p22 : lw_okq (⟨"DearVotesModel", "matchedOf", "(IIZ)J"⟩, 25) := ⟨⟨by decide +kernel, by decide +kernel⟩, List.mem_of_getElem? (i := 470) (by decide +kernel), List.mem_of_getElem? (i := 703) (by decide +kernel), List.mem_of_getElem? (i := 704) (by decide +kernel)⟩
theorem lw_p23 : lw_okq (⟨"DearVotesModel", "likenessOf", "(II)I"⟩, 25) := ⟨⟨by decide +kernel, by decide +kernel⟩, List.mem_of_getElem? (i := 470) (by decide +kernel), List.mem_of_getElem? (i := 730) (by decide +kernel), List.mem_of_getElem? (i := 731) (by decide +kernel)⟩
theorem lw_p24 : lw_okq (⟨"DearVotesModel", "mix", "(J)V"⟩, 25) := ⟨⟨by decide +kernel, by decide +kernel⟩, List.mem_of_getElem? (i := 470) (by decide +kernel), List.mem_of_getElem? (i := 747) (by decide +kernel), List.mem_of_getElem? (i := 748) (by decide +kernel)⟩
def lw_privs_2 : List (MethodName × Nat) := [(⟨"DearVotesModel", "end", "(II)V"⟩, 25), (⟨"DearVotesModel", "isBetter", "(II)Z"⟩, 25), (⟨"DearVotesModel", "adopt", "(I)V"⟩, 25), (⟨"DearVotesModel", "keep", "(I)V"⟩, 25), (⟨"DearVotesModel", "isAsBehind", "(I)Z"⟩, 25), (⟨"DearVotesModel", "isProject", "(I)Z"⟩, 25), (⟨"DearVotesModel", "matchedOf", "(IIZ)J"⟩, 25), (⟨"DearVotesModel", "likenessOf", "(II)I"⟩, 25), (⟨"DearVotesModel", "mix", "(J)V"⟩, 25)]
theorem lw_r2 : ∀ q ∈ lw_privs_2, lw_okq q := List.forall_mem_cons.mpr ⟨lw_p16, List.forall_mem_cons.mpr ⟨lw_p17, List.forall_mem_cons.mpr ⟨lw_p18, List.forall_mem_cons.mpr ⟨lw_p19, List.forall_mem_cons.mpr ⟨lw_p20, List.forall_mem_cons.mpr ⟨lw_p21, List.forall_mem_cons.mpr ⟨lw_p22, List.forall_mem_cons.mpr ⟨lw_p23, List.forall_mem_cons.mpr ⟨lw_p24, fun _ h => absurd h List.not_mem_nil⟩⟩⟩⟩⟩⟩⟩⟩⟩
def lw_privs : List (MethodName × Nat) := lw_privs_1 ++ (lw_privs_2)
def lw_tbl : List Cond := k2_sels lw_privs ++ tables_1
theorem lw_privs_ok : ∀ q ∈ lw_privs, lw_okq q := by
  show ∀ q ∈ lw_privs_1 ++ (lw_privs_2), lw_okq q
  exact List.forall_mem_append.mpr ⟨lw_r1, lw_r2⟩
end
section
/-! ===== BEGIN words of one list among another's, by their places ===== -/
theorem goodIn_r {big : List Cond} (ws : List Cond) (ps : List Nat) (hp : ws = ps.filterMap (fun i => big[i]?)) (h : ws.all goodWord = true) : GoodIn big ws := by
  intro w hw
  have h1 := List.all_eq_true.mp h w hw
  rw [hp] at hw
  obtain ⟨i, -, hi⟩ := List.mem_filterMap.mp hw
  have hm : w ∈ big := by first | exact List.mem_of_getElem? hi | exact List.getElem?_mem hi
  exact ⟨hm, good_of_word h1⟩
theorem goodIn_app {big a b : List Cond} (ha : GoodIn big a) (hb : GoodIn big b) : GoodIn big (a ++ b) := fun w h => (List.mem_append.mp h).elim (ha w) (hb w)
theorem goodIn_ca {big a b : List Cond} {c : Cond} (ha : GoodIn big (c :: a)) (hb : GoodIn big b) : GoodIn big (c :: (a ++ b)) := fun w h => (List.mem_cons.mp h).elim (fun e => ha w (List.mem_cons.mpr (Or.inl e))) (fun h => (List.mem_append.mp h).elim (fun h => ha w (List.mem_cons.mpr (Or.inr h))) (hb w))
theorem goodIn_sub {big ws : List Cond} (hm : ∀ w ∈ ws, w ∈ big) (h : ws.all goodWord = true) : GoodIn big ws := fun w hw => ⟨hm w hw, good_of_word (List.all_eq_true.mp h w hw)⟩
/-! ===== END ===== -/

/-! ===== BEGIN new T[n][m]: the outer array a place, the inner ones among the pooled ===== -/
/-- f, but v at every address of l -/
def vr_up {α : Type} (f : Nat → α) (l : List Nat) (v : α) : Nat → α := fun a => if a ∈ l then v else f a
theorem vr_up_in {α : Type} {f : Nat → α} {l : List Nat} {v : α} {a : Nat} (h : a ∈ l) : vr_up f l v a = v := if_pos h
theorem vr_up_ne {α : Type} {f : Nat → α} {l : List Nat} {v : α} {a : Nat} (h : a ∉ l) : vr_up f l v a = f a := if_neg h
theorem vr_rows {L l : List Nat} {f : Nat → va_E} {e : va_E} (h : ∀ a, a ∈ l → a ∉ L) : va_pl L f ++ l.map (fun a => (a, e)) = va_pl (L ++ l) (vr_up f l e) := by
  unfold va_pl
  rw [List.map_append]
  congr 1
  · apply List.map_congr_left
    intro a ha
    rw [vr_up_ne (fun q => h a q ha)]
  · apply List.map_congr_left
    intro a ha
    rw [vr_up_in ha]
theorem vr_lay {X rows : va_W} {x : Nat × va_E} {pl : va_W} {D : va_G} {cl : List vw_C} {H : Heap} (hP : va_P D cl (((X ++ pl) ++ [x]) ++ rows) H) : va_P D cl ((X ++ [x]) ++ (pl ++ rows)) H := by
  rw [List.append_assoc (X ++ pl)] at hP
  have h := va_P.swap hP
  rw [← List.append_assoc X] at h
  have h2 := va_P.swap h
  rw [List.append_assoc (X ++ [x])] at h2
  exact h2
theorem vr_layD {X rows : va_W} {x : Nat × va_E} {pl : va_W} {A : Nat → Prop} (hD : va_D A (((X ++ pl) ++ [x]) ++ rows)) : va_D A ((X ++ [x]) ++ (pl ++ rows)) := by
  rw [List.append_assoc (X ++ pl)] at hD
  have h := va_D.swap hD
  rw [← List.append_assoc X] at h
  have h2 := va_D.swap h
  rw [List.append_assoc (X ++ [x])] at h2
  exact h2
theorem vr_outer (c : ClassId) (N h0 : Nat) : ∀ i : Nat, Jvm.Free.Multi.outerC c N h0 i = arrV c N (fun j => va_rf (if j < i then some (h0 + 1 + j) else none))
  | 0 => by
    show ({ cls := c, slots := Array.replicate N .null, vm := .none } : Cell) = _
    rw [arrV_new]
    refine congrArg (arrV c N) (funext fun j => ?_)
    simp [va_rf]
  | i + 1 => by
    show (Jvm.Free.Multi.outerC c N h0 i).setSlot i (.ref (h0 + 1 + i)) = _
    rw [vr_outer c N h0 i, arrV_store]
    refine congrArg (arrV c N) (funext fun j => ?_)
    by_cases e : j = i
    · subst e
      simp [updV, va_rf]
    · by_cases h : j < i
      · simp [updV, e, h, Nat.lt_succ_of_lt h]
      · simp [updV, e, h, show ¬ j < i + 1 by omega]
section VGM
variable {p : Program} {l : Launch} {e : Env} {R : Room} {s : State} {m : MethodId} {args : Array Value} {below : List Frame} {meth : Method} {c : Code} {H : Heap} {locs : List Loc} {cells slots : Nat} {Q : State → Prop}
variable {cc : ByteArray} {pc : Nat} {ls : Array Slot} {rest : List Value} {D : va_G} {cl : List vw_C} {A : Nat → Prop} {a : Nat} {tys : List (ClassId × FieldType)} {ws : va_W} {H0 : Heap}
theorem va_mna {X : va_W} {L : List Nat} {f : Nat → va_E} {cc : ByteArray} (hexec : p.tables.exec = Jvm.exec) (hb : c.code = cc) {own : String} {index : Nat} {ty : FieldType} {cy : ClassId} (hown : s.vm.findClass own = some m.cls) (hclink : (Cond.classLink own index ("[" ++ (FieldType.array ty).toString)).before args s = true) (hover : va_AOA ty s) (harr : (Cond.arrayClass ty).before args s = true) (hcy : s.vm.findClass (FieldType.array ty).toString = some cy)
    (hK : va_K D cl tys s) (hP : va_P D cl (X ++ va_pl L f) H) (hD : va_D A (X ++ va_pl L f)) (hS : va_S A H0 H locs) (hA : ∀ q, H0.size ≤ q → A q) {n k : Int32} {N' K' : Nat} {z : vp_A} (hn : ¬ n < 0) (hk : ¬ k < 0) (hN : n.toNatClampNeg = N') (hM : k.toNatClampNeg = K')
    (hb1 : N' * 4 ≤ 536870912) (hb2 : K' * componentBytes ty ≤ 536870912) (hb3 : K' ≤ 536870912) (hdf : fits ty (defaultValue ty) = true) (hdd : (defaultValue ty).isDefault = true) (hcells : cells + (1 + N') ≤ R.cells) (hslots : slots + (N' + N' * K') ≤ R.slots) (hz : ∀ c : ClassId, Jvm.Free.Multi.innerC c K' (defaultValue ty) = vp_cell c z) (hdg : decode cc pc = .ok (.multianewarray index 2, 4))
    (kk : ∀ (q : Nat) (r : Nat → Nat) (cA : ClassId) (H1 : Heap), (∀ i j : Nat, i < N' → j < N' → r i = r j → i = j) → (∀ i : Nat, i < N' → r i ∉ L) → va_K D cl (tys ++ [(cA, .array ty)]) s →
      va_P D cl ((X ++ [(q, .inl (cA, N', .inr (.inr (.inr (.inr (fun i => if i < N' then some (r i) else none))))))]) ++ va_pl (L ++ (List.range N').map r) (vr_up f ((List.range N').map r) (.inl (cy, z)))) H1 → va_D A ((X ++ [(q, .inl (cA, N', .inr (.inr (.inr (.inr (fun i => if i < N' then some (r i) else none))))))]) ++ va_pl (L ++ (List.range N').map r) (vr_up f ((List.range N').map r) (.inl (cy, z)))) → va_S A H0 H1 locs →
      W p l e R s m args below meth c H1 locs (cells + 1 + N') (slots + N' + N' * K') Q (F0 m (pc + 4) ls (.ref q :: rest))) : W p l e R s m args below meth c H locs cells slots Q (F0 m pc ls (.int k :: .int n :: rest)) := by
  subst hN
  subst hM
  intro T hT Xs
  obtain ⟨vm₁, cA, comp, -, fA, fC, hO, -, X', step⟩ := Xs.multianewarray2F hexec hown hclink (va_AOA.use hover) harr (g := F0 m pc ls (.int k :: .int n :: rest)) rfl (by rw [hb]; exact hdg) rfl hn hk hb1 hb2 hb3 hdf hdd hcells hslots
  have ec : some cy = some comp := hcy.symm.trans fC
  cases ec
  generalize hF : Jvm.Free.Multi.fill (T.setVm vm₁) cA cy n.toNatClampNeg k.toNatClampNeg (defaultValue ty) n.toNatClampNeg = F at X' step
  have hTh : (T.setVm vm₁).heap = H := hT
  obtain ⟨f1, f2, -, -⟩ := Jvm.Free.Multi.fill_facts (T.setVm vm₁) cA cy n.toNatClampNeg k.toNatClampNeg (defaultValue ty) n.toNatClampNeg
  rw [hF, hTh] at f1 f2
  have hold : ∀ x : Nat, x < H.size → F.heap[x]? = H[x]? := fun x hx => by
    have := Jvm.Free.Multi.fill_old (T.setVm vm₁) cA cy n.toNatClampNeg k.toNatClampNeg (defaultValue ty) (a := x) (by rw [hTh]; exact hx) n.toNatClampNeg
    rw [hF, hTh] at this
    exact this
  have hrow : ∀ j : Nat, j < n.toNatClampNeg → F.heap[H.size + 1 + j]? = some (vp_cell cy z) := fun j hj => by
    have := Jvm.Free.Multi.fill_inner (T.setVm vm₁) cA cy n.toNatClampNeg k.toNatClampNeg (defaultValue ty) n.toNatClampNeg j hj
    rw [hF, hTh, hz] at this
    exact this
  have hout : Jvm.Free.Multi.outerC cA n.toNatClampNeg H.size n.toNatClampNeg = vp_cell cA (n.toNatClampNeg, .inr (.inr (.inr (.inr (fun i => if i < n.toNatClampNeg then some (H.size + 1 + i) else none))))) := by
    rw [vp_cell_q]
    exact vr_outer cA n.toNatClampNeg H.size n.toNatClampNeg
  rw [hout] at f2
  have hlt : ∀ a, a ∈ L → a < H.size := fun a ha => by
    obtain ⟨k9, hk9⟩ := va_pl_get (X := X) (f := f) ha
    exact (hP k9 _ hk9).lt
  have hnl : ∀ i : Nat, i < n.toNatClampNeg → H.size + 1 + i ∉ L := fun i _ h => by
    have := hlt _ h
    omega
  have hnm : ∀ a, a ∈ (List.range n.toNatClampNeg).map (fun i => H.size + 1 + i) → a ∉ L := fun a ha h => by
    obtain ⟨i, -, rfl⟩ := List.mem_map.mp ha
    have := hlt _ h
    omega
  have hP0 : va_P D cl (X ++ va_pl L f) F.heap := hP.kept (fun k9 x hx => hold x.1 ((hP k9 x hx).lt))
  have hP1 : va_P D cl ((X ++ va_pl L f) ++ [(H.size, .inl (cA, n.toNatClampNeg, .inr (.inr (.inr (.inr (fun i => if i < n.toNatClampNeg then some (H.size + 1 + i) else none))))))]) F.heap := hP0.app (fun k9 x hx => by
    have h0 : k9 < 1 := (List.getElem?_eq_some_iff.mp hx).1
    rw [show k9 = 0 by omega] at hx
    cases hx
    exact f2)
  have hP2 : va_P D cl (((X ++ va_pl L f) ++ [(H.size, .inl (cA, n.toNatClampNeg, .inr (.inr (.inr (.inr (fun i => if i < n.toNatClampNeg then some (H.size + 1 + i) else none))))))]) ++ ((List.range n.toNatClampNeg).map (fun i => H.size + 1 + i)).map (fun a => (a, .inl (cy, z)))) F.heap := hP1.app (fun k9 x hx => by
    obtain ⟨a, ha, rfl⟩ := List.mem_map.mp (List.mem_of_getElem? hx)
    obtain ⟨i, hi, rfl⟩ := List.mem_map.mp ha
    exact hrow i (List.mem_range.mp hi))
  have hD2 : va_D A (((X ++ va_pl L f) ++ [(H.size, .inl (cA, n.toNatClampNeg, .inr (.inr (.inr (.inr (fun i => if i < n.toNatClampNeg then some (H.size + 1 + i) else none))))))]) ++ ((List.range n.toNatClampNeg).map (fun i => H.size + 1 + i)).map (fun a => (a, .inl (cy, z)))) := by
    have hD1 := hD.push (e := .inl (cA, n.toNatClampNeg, .inr (.inr (.inr (.inr (fun i => if i < n.toNatClampNeg then some (H.size + 1 + i) else none)))))) hP rfl (hA _ hS.1)
    generalize hW1 : (X ++ va_pl L f) ++ [(H.size, .inl (cA, n.toNatClampNeg, .inr (.inr (.inr (.inr (fun i => if i < n.toNatClampNeg then some (H.size + 1 + i) else none))))))] = W1 at hD1 hP1 ⊢
    have hle : ∀ (k9 : Nat) (x : Nat × va_E), W1[k9]? = some x → x.1 ≤ H.size := fun k9 x hx => by
      rw [← hW1] at hx
      by_cases hl : k9 < (X ++ va_pl L f).length
      · rw [List.getElem?_append_left hl] at hx
        exact Nat.le_of_lt ((hP k9 x hx).lt)
      · rw [List.getElem?_append_right (by omega)] at hx
        have h0 : k9 - (X ++ va_pl L f).length < 1 := (List.getElem?_eq_some_iff.mp hx).1
        rw [show k9 - (X ++ va_pl L f).length = 0 by omega] at hx
        cases hx
        exact Nat.le_refl _
    have hr : ∀ (k9 : Nat) (x : Nat × va_E), (((List.range n.toNatClampNeg).map (fun i => H.size + 1 + i)).map (fun a => ((a, .inl (cy, z)) : Nat × va_E)))[k9]? = some x → x.1 = H.size + 1 + k9 := fun k9 x hx => by
      rw [List.getElem?_map, List.getElem?_map] at hx
      by_cases h9 : k9 < n.toNatClampNeg
      · rw [List.getElem?_range h9] at hx
        cases hx
        rfl
      · have hn0 : (List.range n.toNatClampNeg)[k9]? = none := List.getElem?_eq_none (by rw [List.length_range]; omega)
        rw [hn0] at hx
        cases hx
    refine ⟨fun i j x y hi hj hxy => ?_, fun k9 x hx => ?_⟩
    · by_cases h1 : i < W1.length <;> by_cases h2 : j < W1.length
      · rw [List.getElem?_append_left h1] at hi
        rw [List.getElem?_append_left h2] at hj
        exact hD1.1 i j x y hi hj hxy
      · rw [List.getElem?_append_left h1] at hi
        rw [List.getElem?_append_right (by omega)] at hj
        have := hle _ _ hi
        have := hr _ _ hj
        omega
      · rw [List.getElem?_append_right (by omega)] at hi
        rw [List.getElem?_append_left h2] at hj
        have := hle _ _ hj
        have := hr _ _ hi
        omega
      · rw [List.getElem?_append_right (by omega)] at hi hj
        have := hr _ _ hi
        have := hr _ _ hj
        omega
    · by_cases h1 : k9 < W1.length
      · rw [List.getElem?_append_left h1] at hx
        exact hD1.2 k9 x hx
      · rw [List.getElem?_append_right (by omega)] at hx
        have := hr _ _ hx
        exact hA _ (by have := hS.1; omega)
  have hAr : ArrOfT s cA (.array ty) := fun N9 z9 => by
    obtain ⟨-, k9, hk9, cm9, hkk9⟩ := (hO 0 0 0).1
    exact ⟨(fun q hq => by cases hq), k9, hk9, cm9, hkk9⟩
  have hK2 : va_K D cl (tys ++ [(cA, .array ty)]) s := ⟨hK.1, fun k9 x hx => by
    by_cases hl : k9 < tys.length
    · rw [List.getElem?_append_left hl] at hx
      exact hK.2 k9 x hx
    · rw [List.getElem?_append_right (by omega)] at hx
      have h0 : k9 - tys.length < 1 := (List.getElem?_eq_some_iff.mp hx).1
      rw [show k9 - tys.length = 0 by omega] at hx
      cases hx
      exact ⟨hAr, fA⟩⟩
  obtain ⟨t, a1, b1⟩ := kk H.size (fun i => H.size + 1 + i) cA F.heap (fun i j _ _ h => by have h9 : H.size + 1 + i = H.size + 1 + j := h; omega) hnl hK2 (by rw [← vr_rows hnm]; exact vr_lay hP2) (by rw [← vr_rows hnm]; exact vr_layD hD2) ⟨by rw [f1]; have := hS.1; omega, fun x h1 h2 => (hold x (Nat.lt_of_lt_of_le h1 hS.1)).trans (hS.2.1 x h1 h2), hS.2.2⟩ F rfl X'
  refine ⟨t, step t ?_, b1⟩
  have e : T.heap.size = H.size := by rw [hT]
  rw [e]
  exact a1
end VGM
/-! ===== END ===== -/

/-! ===== BEGIN printed: names, fields, word lists, decode rows ===== -/
def RX0 : String := "DearVotes$Fund"
def TX0 : u_T := fun k => match k with
  | 0 => ("DearVotes$Fund", "house", "LDearVotes$House;", true)
  | 1 => ("DearVotes$Fund", "projects", "I", false)
  | 2 => ("DearVotes$Fund", "gifts", "[[I", true)
  | 3 => ("DearVotes$Fund", "bonds", "[[I", true)
  | _ => ("DearVotes$Fund", "lows", "[J", true)
def tyX0 : Nat → FieldType := fun k => match k with
  | 0 => .object "DearVotes$House"
  | 1 => .int
  | 2 => .array (.array .int)
  | 3 => .array (.array .int)
  | _ => .array .long
abbrev wsX00 : List Cond := u_ws RX0 TX0 5
theorem nmX0 : ∀ a, a < 5 → ∀ b, b < 5 → a ≠ b → (TX0 a).2.1 ≠ (TX0 b).2.1 := by decide +kernel
theorem tyX0_ok : ∀ k, k < 5 → parseFieldDescriptor (TX0 k).2.2.1 = some (tyX0 k) := by decide +kernel
abbrev cX0_init : ByteArray := prog_2_method_1_code
def yX0_init : MethodName := ⟨RX0, "<init>", "(LDearVotes$House;)V"⟩
abbrev cX0_hasProject : ByteArray := prog_2_method_2_code
def yX0_hasProject : MethodName := ⟨RX0, "hasProject", "(I)Z"⟩
abbrev cX0_matchedLow : ByteArray := prog_2_method_3_code
def yX0_matchedLow : MethodName := ⟨RX0, "matchedLow", "(I)J"⟩
abbrev cX0_matchedUndamped : ByteArray := prog_2_method_4_code
def yX0_matchedUndamped : MethodName := ⟨RX0, "matchedUndamped", "(I)J"⟩
abbrev cX0_matchedHigh : ByteArray := prog_2_method_5_code
def yX0_matchedHigh : MethodName := ⟨RX0, "matchedHigh", "(I)J"⟩
abbrev cX0_fineProduct : ByteArray := prog_2_method_6_code
def yX0_fineProduct : MethodName := ⟨RX0, "fineProduct", "(III)J"⟩
abbrev cX0_root : ByteArray := prog_2_method_7_code
def yX0_root : MethodName := ⟨RX0, "root", "(J)J"⟩
abbrev cX0_rootAbove : ByteArray := prog_2_method_8_code
def yX0_rootAbove : MethodName := ⟨RX0, "rootAbove", "(J)J"⟩
abbrev cX0_shareOf : ByteArray := prog_2_method_9_code
def yX0_shareOf : MethodName := ⟨RX0, "shareOf", "(IJ)J"⟩
abbrev cX0_digestPerson : ByteArray := prog_2_method_10_code
def yX0_digestPerson : MethodName := ⟨RX0, "digestPerson", "(JI)J"⟩
def RX1 : String := "DearVotes$House"
def TX1 : u_T := fun k => match k with
  | 0 => ("DearVotes$House", "people", "I", false)
  | 1 => ("DearVotes$House", "questions", "I", false)
  | 2 => ("DearVotes$House", "seed", "I", false)
  | 3 => ("DearVotes$House", "budgets", "[I", true)
  | 4 => ("DearVotes$House", "present", "[Z", true)
  | 5 => ("DearVotes$House", "voices", "[[I", true)
  | _ => ("DearVotes$House", "worths", "[[I", true)
def tyX1 : Nat → FieldType := fun k => match k with
  | 0 => .int
  | 1 => .int
  | 2 => .int
  | 3 => .array .int
  | 4 => .array .boolean
  | 5 => .array (.array .int)
  | _ => .array (.array .int)
abbrev wsX10 : List Cond := u_ws RX1 TX1 7
theorem nmX1 : ∀ a, a < 7 → ∀ b, b < 7 → a ≠ b → (TX1 a).2.1 ≠ (TX1 b).2.1 := by decide +kernel
theorem tyX1_ok : ∀ k, k < 7 → parseFieldDescriptor (TX1 k).2.2.1 = some (tyX1 k) := by decide +kernel
abbrev cX1_init : ByteArray := prog_3_method_1_code
def yX1_init : MethodName := ⟨RX1, "<init>", "()V"⟩
abbrev cX1_hasPerson : ByteArray := prog_3_method_2_code
def yX1_hasPerson : MethodName := ⟨RX1, "hasPerson", "(I)Z"⟩
abbrev cX1_hasQuestion : ByteArray := prog_3_method_3_code
def yX1_hasQuestion : MethodName := ⟨RX1, "hasQuestion", "(I)Z"⟩
abbrev cX1_addPerson : ByteArray := prog_3_method_4_code
def yX1_addPerson : MethodName := ⟨RX1, "addPerson", "(I)I"⟩
abbrev cX1_peoplePresent : ByteArray := prog_3_method_5_code
def yX1_peoplePresent : MethodName := ⟨RX1, "peoplePresent", "()I"⟩
abbrev cX1_costOf : ByteArray := prog_3_method_6_code
def yX1_costOf : MethodName := ⟨RX1, "costOf", "(I)I"⟩
abbrev cX1_countOf : ByteArray := prog_3_method_7_code
def yX1_countOf : MethodName := ⟨RX1, "countOf", "(I)I"⟩
abbrev cX1_countWithout : ByteArray := prog_3_method_8_code
def yX1_countWithout : MethodName := ⟨RX1, "countWithout", "(II)I"⟩
abbrev cX1_resultOf : ByteArray := prog_3_method_9_code
def yX1_resultOf : MethodName := ⟨RX1, "resultOf", "(II)I"⟩
abbrev cX1_gainOf : ByteArray := prog_3_method_10_code
def yX1_gainOf : MethodName := ⟨RX1, "gainOf", "(I)I"⟩
abbrev cX1_gainBy : ByteArray := prog_3_method_11_code
def yX1_gainBy : MethodName := ⟨RX1, "gainBy", "(II)I"⟩
abbrev cX1_swingsOf : ByteArray := prog_3_method_12_code
def yX1_swingsOf : MethodName := ⟨RX1, "swingsOf", "(I)I"⟩
abbrev cX1_likenessOf : ByteArray := prog_3_method_13_code
def yX1_likenessOf : MethodName := ⟨RX1, "likenessOf", "(II)I"⟩
abbrev cX1_groupOf : ByteArray := prog_3_method_14_code
def yX1_groupOf : MethodName := ⟨RX1, "groupOf", "(II)I"⟩
abbrev cX1_alikeTo : ByteArray := prog_3_method_15_code
def yX1_alikeTo : MethodName := ⟨RX1, "alikeTo", "(II)I"⟩
abbrev cX1_voicesInOne : ByteArray := prog_3_method_16_code
def yX1_voicesInOne : MethodName := ⟨RX1, "voicesInOne", "(I)J"⟩
abbrev cX1_digestPerson : ByteArray := prog_3_method_17_code
def yX1_digestPerson : MethodName := ⟨RX1, "digestPerson", "(JI)J"⟩
def RX2 : String := "DearVotes$Rounds"
def TX2 : u_T := fun k => match k with
  | 0 => ("DearVotes$Rounds", "house", "LDearVotes$House;", true)
  | 1 => ("DearVotes$Rounds", "search", "LDearVotes$Search;", true)
  | 2 => ("DearVotes$Rounds", "trail", "[[J", true)
  | 3 => ("DearVotes$Rounds", "doneEver", "I", false)
  | 4 => ("DearVotes$Rounds", "changesEver", "I", false)
  | 5 => ("DearVotes$Rounds", "ending", "I", false)
  | _ => ("DearVotes$Rounds", "ringLength", "I", false)
def tyX2 : Nat → FieldType := fun k => match k with
  | 0 => .object "DearVotes$House"
  | 1 => .object "DearVotes$Search"
  | 2 => .array (.array .long)
  | 3 => .int
  | 4 => .int
  | 5 => .int
  | _ => .int
abbrev wsX20 : List Cond := u_ws RX2 TX2 7
theorem nmX2 : ∀ a, a < 7 → ∀ b, b < 7 → a ≠ b → (TX2 a).2.1 ≠ (TX2 b).2.1 := by decide +kernel
theorem tyX2_ok : ∀ k, k < 7 → parseFieldDescriptor (TX2 k).2.2.1 = some (tyX2 k) := by decide +kernel
abbrev cX2_init : ByteArray := prog_4_method_1_code
def yX2_init : MethodName := ⟨RX2, "<init>", "(LDearVotes$House;LDearVotes$Search;)V"⟩
abbrev cX2_playAtMost : ByteArray := prog_4_method_2_code
def yX2_playAtMost : MethodName := ⟨RX2, "playAtMost", "(I)I"⟩
abbrev cX2_doRound : ByteArray := prog_4_method_3_code
def yX2_doRound : MethodName := ⟨RX2, "doRound", "()I"⟩
abbrev cX2_noteVoices : ByteArray := prog_4_method_4_code
def yX2_noteVoices : MethodName := ⟨RX2, "noteVoices", "(I)V"⟩
abbrev cX2_judge : ByteArray := prog_4_method_5_code
def yX2_judge : MethodName := ⟨RX2, "judge", "(II)V"⟩
abbrev cX2_isSameTrail : ByteArray := prog_4_method_6_code
def yX2_isSameTrail : MethodName := ⟨RX2, "isSameTrail", "(II)Z"⟩
def RX3 : String := "DearVotes$Search"
def TX3 : u_T := fun k => match k with
  | 0 => ("DearVotes$Search", "house", "LDearVotes$House;", true)
  | 1 => ("DearVotes$Search", "choices", "[I", true)
  | 2 => ("DearVotes$Search", "choiceVoices", "[[I", true)
  | 3 => ("DearVotes$Search", "choiceGains", "[[I", true)
  | 4 => ("DearVotes$Search", "gainAhead", "[I", true)
  | 5 => ("DearVotes$Search", "tried", "[I", true)
  | 6 => ("DearVotes$Search", "found", "[I", true)
  | 7 => ("DearVotes$Search", "foundGain", "I", false)
  | 8 => ("DearVotes$Search", "foundCost", "I", false)
  | _ => ("DearVotes$Search", "budget", "I", false)
def tyX3 : Nat → FieldType := fun k => match k with
  | 0 => .object "DearVotes$House"
  | 1 => .array .int
  | 2 => .array (.array .int)
  | 3 => .array (.array .int)
  | 4 => .array .int
  | 5 => .array .int
  | 6 => .array .int
  | 7 => .int
  | 8 => .int
  | _ => .int
abbrev wsX30 : List Cond := u_ws RX3 TX3 10
theorem nmX3 : ∀ a, a < 10 → ∀ b, b < 10 → a ≠ b → (TX3 a).2.1 ≠ (TX3 b).2.1 := by decide +kernel
theorem tyX3_ok : ∀ k, k < 10 → parseFieldDescriptor (TX3 k).2.2.1 = some (tyX3 k) := by decide +kernel
abbrev cX3_init : ByteArray := prog_5_method_1_code
def yX3_init : MethodName := ⟨RX3, "<init>", "(LDearVotes$House;)V"⟩
abbrev cX3_findFor : ByteArray := prog_5_method_2_code
def yX3_findFor : MethodName := ⟨RX3, "findFor", "(I)V"⟩
abbrev cX3_giveTo : ByteArray := prog_5_method_3_code
def yX3_giveTo : MethodName := ⟨RX3, "giveTo", "(I)V"⟩
abbrev cX3_listChoices : ByteArray := prog_5_method_4_code
def yX3_listChoices : MethodName := ⟨RX3, "listChoices", "(III)V"⟩
abbrev cX3_addChoice : ByteArray := prog_5_method_5_code
def yX3_addChoice : MethodName := ⟨RX3, "addChoice", "(III)V"⟩
abbrev cX3_tryFrom : ByteArray := prog_5_method_6_code
def yX3_tryFrom : MethodName := ⟨RX3, "tryFrom", "(LDearVotes$Search;III)V"⟩
abbrev cX3_keepIfBetter : ByteArray := prog_5_method_7_code
def yX3_keepIfBetter : MethodName := ⟨RX3, "keepIfBetter", "(II)V"⟩
abbrev cX3_triedIsLess : ByteArray := prog_5_method_8_code
def yX3_triedIsLess : MethodName := ⟨RX3, "triedIsLess", "()Z"⟩
def RX4 : String := "DearVotes"
def TX4 : u_T := fun k => match k with
  | 0 => ("DearVotes", "house", "LDearVotes$House;", true)
  | 1 => ("DearVotes", "search", "LDearVotes$Search;", true)
  | 2 => ("DearVotes", "rounds", "LDearVotes$Rounds;", true)
  | _ => ("DearVotes", "fund", "LDearVotes$Fund;", true)
def tyX4 : Nat → FieldType := fun k => match k with
  | 0 => .object "DearVotes$House"
  | 1 => .object "DearVotes$Search"
  | 2 => .object "DearVotes$Rounds"
  | _ => .object "DearVotes$Fund"
abbrev wsX40 : List Cond := u_ws RX4 TX4 4
theorem nmX4 : ∀ a, a < 4 → ∀ b, b < 4 → a ≠ b → (TX4 a).2.1 ≠ (TX4 b).2.1 := by decide +kernel
theorem tyX4_ok : ∀ k, k < 4 → parseFieldDescriptor (TX4 k).2.2.1 = some (tyX4 k) := by decide +kernel
abbrev cX4_init : ByteArray := prog_1_method_1_code
def yX4_init : MethodName := ⟨RX4, "<init>", "()V"⟩
abbrev cX4_person : ByteArray := prog_1_method_2_code
def yX4_person : MethodName := ⟨RX4, "person", "(I)I"⟩
abbrev cX4_question : ByteArray := prog_1_method_3_code
def yX4_question : MethodName := ⟨RX4, "question", "()I"⟩
abbrev cX4_project : ByteArray := prog_1_method_4_code
def yX4_project : MethodName := ⟨RX4, "project", "()I"⟩
abbrev cX4_seed : ByteArray := prog_1_method_5_code
def yX4_seed : MethodName := ⟨RX4, "seed", "(I)I"⟩
abbrev cX4_vote : ByteArray := prog_1_method_6_code
def yX4_vote : MethodName := ⟨RX4, "vote", "(III)I"⟩
abbrev cX4_worth : ByteArray := prog_1_method_7_code
def yX4_worth : MethodName := ⟨RX4, "worth", "(III)I"⟩
abbrev cX4_here : ByteArray := prog_1_method_8_code
def yX4_here : MethodName := ⟨RX4, "here", "(IZ)I"⟩
abbrev cX4_voices : ByteArray := prog_1_method_9_code
def yX4_voices : MethodName := ⟨RX4, "voices", "(II)I"⟩
abbrev cX4_cost : ByteArray := prog_1_method_10_code
def yX4_cost : MethodName := ⟨RX4, "cost", "(I)I"⟩
abbrev cX4_total : ByteArray := prog_1_method_11_code
def yX4_total : MethodName := ⟨RX4, "total", "(I)I"⟩
abbrev cX4_result : ByteArray := prog_1_method_12_code
def yX4_result : MethodName := ⟨RX4, "result", "(I)I"⟩
abbrev cX4_gain : ByteArray := prog_1_method_13_code
def yX4_gain : MethodName := ⟨RX4, "gain", "(I)I"⟩
abbrev cX4_swings : ByteArray := prog_1_method_14_code
def yX4_swings : MethodName := ⟨RX4, "swings", "(I)I"⟩
abbrev cX4_best : ByteArray := prog_1_method_15_code
def yX4_best : MethodName := ⟨RX4, "best", "(I)I"⟩
abbrev cX4_answer : ByteArray := prog_1_method_16_code
def yX4_answer : MethodName := ⟨RX4, "answer", "(II)I"⟩
abbrev cX4_take : ByteArray := prog_1_method_17_code
def yX4_take : MethodName := ⟨RX4, "take", "(I)I"⟩
abbrev cX4_play : ByteArray := prog_1_method_18_code
def yX4_play : MethodName := ⟨RX4, "play", "(I)I"⟩
abbrev cX4_ended : ByteArray := prog_1_method_19_code
def yX4_ended : MethodName := ⟨RX4, "ended", "()I"⟩
abbrev cX4_ring : ByteArray := prog_1_method_20_code
def yX4_ring : MethodName := ⟨RX4, "ring", "()I"⟩
abbrev cX4_gift : ByteArray := prog_1_method_21_code
def yX4_gift : MethodName := ⟨RX4, "gift", "(III)I"⟩
abbrev cX4_bond : ByteArray := prog_1_method_22_code
def yX4_bond : MethodName := ⟨RX4, "bond", "(III)I"⟩
abbrev cX4_matched : ByteArray := prog_1_method_23_code
def yX4_matched : MethodName := ⟨RX4, "matched", "(II)J"⟩
abbrev cX4_share : ByteArray := prog_1_method_24_code
def yX4_share : MethodName := ⟨RX4, "share", "(IJ)J"⟩
abbrev cX4_damped : ByteArray := prog_1_method_25_code
def yX4_damped : MethodName := ⟨RX4, "damped", "(I)J"⟩
abbrev cX4_likeness : ByteArray := prog_1_method_26_code
def yX4_likeness : MethodName := ⟨RX4, "likeness", "(II)I"⟩
abbrev cX4_group : ByteArray := prog_1_method_27_code
def yX4_group : MethodName := ⟨RX4, "group", "(II)I"⟩
abbrev cX4_count : ByteArray := prog_1_method_28_code
def yX4_count : MethodName := ⟨RX4, "count", "(I)I"⟩
abbrev cX4_digest : ByteArray := prog_1_method_29_code
def yX4_digest : MethodName := ⟨RX4, "digest", "()J"⟩
abbrev cX4_isWithin : ByteArray := prog_1_method_30_code
def yX4_isWithin : MethodName := ⟨RX4, "isWithin", "(III)Z"⟩
def RX5 : String := "DearVotesModel"
def TX5 : u_T := fun k => match k with
  | 0 => ("DearVotesModel", "people", "I", false)
  | 1 => ("DearVotesModel", "questions", "I", false)
  | 2 => ("DearVotesModel", "projects", "I", false)
  | 3 => ("DearVotesModel", "seed", "I", false)
  | 4 => ("DearVotesModel", "budgets", "[I", true)
  | 5 => ("DearVotesModel", "isHere", "[Z", true)
  | 6 => ("DearVotesModel", "votes", "[I", true)
  | 7 => ("DearVotesModel", "worths", "[I", true)
  | 8 => ("DearVotesModel", "gifts", "[I", true)
  | 9 => ("DearVotesModel", "bonds", "[I", true)
  | 10 => ("DearVotesModel", "rounds", "I", false)
  | 11 => ("DearVotesModel", "changes", "I", false)
  | 12 => ("DearVotesModel", "ended", "I", false)
  | 13 => ("DearVotesModel", "ring", "I", false)
  | 14 => ("DearVotesModel", "cheapest", "[I", true)
  | 15 => ("DearVotesModel", "may", "[Z", true)
  | 16 => ("DearVotesModel", "bestVoices", "[I", true)
  | 17 => ("DearVotesModel", "tryVoices", "[I", true)
  | 18 => ("DearVotesModel", "bestGain", "I", false)
  | 19 => ("DearVotesModel", "bestCost", "I", false)
  | 20 => ("DearVotesModel", "hasBest", "Z", false)
  | 21 => ("DearVotesModel", "past", "[I", true)
  | 22 => ("DearVotesModel", "parts", "[J", true)
  | 23 => ("DearVotesModel", "rests", "[J", true)
  | _ => ("DearVotesModel", "h", "J", false)
def tyX5 : Nat → FieldType := fun k => match k with
  | 0 => .int
  | 1 => .int
  | 2 => .int
  | 3 => .int
  | 4 => .array .int
  | 5 => .array .boolean
  | 6 => .array .int
  | 7 => .array .int
  | 8 => .array .int
  | 9 => .array .int
  | 10 => .int
  | 11 => .int
  | 12 => .int
  | 13 => .int
  | 14 => .array .int
  | 15 => .array .boolean
  | 16 => .array .int
  | 17 => .array .int
  | 18 => .int
  | 19 => .int
  | 20 => .boolean
  | 21 => .array .int
  | 22 => .array .long
  | 23 => .array .long
  | _ => .long
abbrev wsX50 : List Cond := u_ws RX5 TX5 25
theorem nmX5 : ∀ a, a < 25 → ∀ b, b < 25 → a ≠ b → (TX5 a).2.1 ≠ (TX5 b).2.1 := by decide +kernel
theorem tyX5_ok : ∀ k, k < 25 → parseFieldDescriptor (TX5 k).2.2.1 = some (tyX5 k) := by decide +kernel
abbrev cX5_init : ByteArray := prog_7_method_1_code
def yX5_init : MethodName := ⟨RX5, "<init>", "()V"⟩
abbrev cX5_in : ByteArray := prog_7_method_3_code
def yX5_in : MethodName := ⟨RX5, "in", "(III)Z"⟩
abbrev cX5_isPerson : ByteArray := prog_7_method_4_code
def yX5_isPerson : MethodName := ⟨RX5, "isPerson", "(I)Z"⟩
abbrev cX5_isQuestion : ByteArray := prog_7_method_5_code
def yX5_isQuestion : MethodName := ⟨RX5, "isQuestion", "(I)Z"⟩
abbrev cX5_isProject : ByteArray := prog_7_method_6_code
def yX5_isProject : MethodName := ⟨RX5, "isProject", "(I)Z"⟩
abbrev cX5_person : ByteArray := prog_7_method_7_code
def yX5_person : MethodName := ⟨RX5, "person", "(I)I"⟩
abbrev cX5_question : ByteArray := prog_7_method_8_code
def yX5_question : MethodName := ⟨RX5, "question", "()I"⟩
abbrev cX5_project : ByteArray := prog_7_method_9_code
def yX5_project : MethodName := ⟨RX5, "project", "()I"⟩
abbrev cX5_seed : ByteArray := prog_7_method_10_code
def yX5_seed : MethodName := ⟨RX5, "seed", "(I)I"⟩
abbrev cX5_costOf : ByteArray := prog_7_method_11_code
def yX5_costOf : MethodName := ⟨RX5, "costOf", "(I)I"⟩
abbrev cX5_vote : ByteArray := prog_7_method_12_code
def yX5_vote : MethodName := ⟨RX5, "vote", "(III)I"⟩
abbrev cX5_worth : ByteArray := prog_7_method_13_code
def yX5_worth : MethodName := ⟨RX5, "worth", "(III)I"⟩
abbrev cX5_here : ByteArray := prog_7_method_14_code
def yX5_here : MethodName := ⟨RX5, "here", "(IZ)I"⟩
abbrev cX5_voices : ByteArray := prog_7_method_15_code
def yX5_voices : MethodName := ⟨RX5, "voices", "(II)I"⟩
abbrev cX5_cost : ByteArray := prog_7_method_16_code
def yX5_cost : MethodName := ⟨RX5, "cost", "(I)I"⟩
abbrev cX5_others : ByteArray := prog_7_method_17_code
def yX5_others : MethodName := ⟨RX5, "others", "(II)I"⟩
abbrev cX5_total : ByteArray := prog_7_method_18_code
def yX5_total : MethodName := ⟨RX5, "total", "(I)I"⟩
abbrev cX5_resultOf : ByteArray := prog_7_method_19_code
def yX5_resultOf : MethodName := ⟨RX5, "resultOf", "(II)I"⟩
abbrev cX5_result : ByteArray := prog_7_method_20_code
def yX5_result : MethodName := ⟨RX5, "result", "(I)I"⟩
abbrev cX5_gainBy : ByteArray := prog_7_method_21_code
def yX5_gainBy : MethodName := ⟨RX5, "gainBy", "(II)I"⟩
abbrev cX5_gainOf : ByteArray := prog_7_method_22_code
def yX5_gainOf : MethodName := ⟨RX5, "gainOf", "(I)I"⟩
abbrev cX5_gain : ByteArray := prog_7_method_23_code
def yX5_gain : MethodName := ⟨RX5, "gain", "(I)I"⟩
abbrev cX5_swings : ByteArray := prog_7_method_24_code
def yX5_swings : MethodName := ⟨RX5, "swings", "(I)I"⟩
abbrev cX5_end : ByteArray := prog_7_method_25_code
def yX5_end : MethodName := ⟨RX5, "end", "(II)V"⟩
abbrev cX5_isBetter : ByteArray := prog_7_method_26_code
def yX5_isBetter : MethodName := ⟨RX5, "isBetter", "(II)Z"⟩
abbrev cX5_find : ByteArray := prog_7_method_27_code
def yX5_find : MethodName := ⟨RX5, "find", "(I)V"⟩
abbrev cX5_best : ByteArray := prog_7_method_28_code
def yX5_best : MethodName := ⟨RX5, "best", "(I)I"⟩
abbrev cX5_answer : ByteArray := prog_7_method_29_code
def yX5_answer : MethodName := ⟨RX5, "answer", "(II)I"⟩
abbrev cX5_adopt : ByteArray := prog_7_method_30_code
def yX5_adopt : MethodName := ⟨RX5, "adopt", "(I)V"⟩
abbrev cX5_take : ByteArray := prog_7_method_31_code
def yX5_take : MethodName := ⟨RX5, "take", "(I)I"⟩
abbrev cX5_isAsBehind : ByteArray := prog_7_method_32_code
def yX5_isAsBehind : MethodName := ⟨RX5, "isAsBehind", "(I)Z"⟩
abbrev cX5_keep : ByteArray := prog_7_method_33_code
def yX5_keep : MethodName := ⟨RX5, "keep", "(I)V"⟩
abbrev cX5_play : ByteArray := prog_7_method_34_code
def yX5_play : MethodName := ⟨RX5, "play", "(I)I"⟩
abbrev cX5_ended : ByteArray := prog_7_method_35_code
def yX5_ended : MethodName := ⟨RX5, "ended", "()I"⟩
abbrev cX5_ring : ByteArray := prog_7_method_36_code
def yX5_ring : MethodName := ⟨RX5, "ring", "()I"⟩
abbrev cX5_gift : ByteArray := prog_7_method_37_code
def yX5_gift : MethodName := ⟨RX5, "gift", "(III)I"⟩
abbrev cX5_bond : ByteArray := prog_7_method_38_code
def yX5_bond : MethodName := ⟨RX5, "bond", "(III)I"⟩
abbrev cX5_root : ByteArray := prog_7_method_39_code
def yX5_root : MethodName := ⟨RX5, "root", "(J)J"⟩
abbrev cX5_matchedOf : ByteArray := prog_7_method_40_code
def yX5_matchedOf : MethodName := ⟨RX5, "matchedOf", "(IIZ)J"⟩
abbrev cX5_matched : ByteArray := prog_7_method_41_code
def yX5_matched : MethodName := ⟨RX5, "matched", "(II)J"⟩
abbrev cX5_share : ByteArray := prog_7_method_42_code
def yX5_share : MethodName := ⟨RX5, "share", "(IJ)J"⟩
abbrev cX5_damped : ByteArray := prog_7_method_43_code
def yX5_damped : MethodName := ⟨RX5, "damped", "(I)J"⟩
abbrev cX5_likenessOf : ByteArray := prog_7_method_44_code
def yX5_likenessOf : MethodName := ⟨RX5, "likenessOf", "(II)I"⟩
abbrev cX5_likeness : ByteArray := prog_7_method_45_code
def yX5_likeness : MethodName := ⟨RX5, "likeness", "(II)I"⟩
abbrev cX5_group : ByteArray := prog_7_method_46_code
def yX5_group : MethodName := ⟨RX5, "group", "(II)I"⟩
abbrev cX5_count : ByteArray := prog_7_method_47_code
def yX5_count : MethodName := ⟨RX5, "count", "(I)I"⟩
abbrev cX5_mix : ByteArray := prog_7_method_48_code
def yX5_mix : MethodName := ⟨RX5, "mix", "(J)V"⟩
abbrev cX5_digest : ByteArray := prog_7_method_49_code
def yX5_digest : MethodName := ⟨RX5, "digest", "()J"⟩
def RJ10 : String := "java/lang/System"
def TJ10 : u_T := fun k => match k with
  | _ => ("", "", "", false)
def tyJ10 : Nat → FieldType := fun k => match k with
  | _ => .int
abbrev wsJ100 : List Cond := u_ws RJ10 TJ10 0
theorem nmJ10 : ∀ a, a < 0 → ∀ b, b < 0 → a ≠ b → (TJ10 a).2.1 ≠ (TJ10 b).2.1 := by decide +kernel
theorem tyJ10_ok : ∀ k, k < 0 → parseFieldDescriptor (TJ10 k).2.2.1 = some (tyJ10 k) := by decide +kernel
def RL : String := "DearVotesLaw"
abbrev cL_law : ByteArray := code
def yL_law : MethodName := ⟨RL, "law", "([I)Z"⟩
def wsX0_init : List Cond := .code yX0_init cX0_init 4 none :: ([.methodLink RX0 3 objectInit, .instanceMethod objectInit, .code objectInit ⟨#[0xb1]⟩ 1 none, .classLink RX0 9 "[[I", .arrayClass .int, .fieldLink RX0 11 "DearVotes$Fund" "gifts" "[[I", .fieldLink RX0 16 "DearVotes$Fund" "bonds" "[[I", .arrayClass .long, .fieldLink RX0 19 "DearVotes$Fund" "lows" "[J", .fieldLink RX0 23 "DearVotes$Fund" "house" "LDearVotes$House;"] ++ wsX00)
def wsX0_hasProject : List Cond := .code yX0_hasProject cX0_hasProject 2 (some .boolean) :: ([.fieldLink RX0 27 "DearVotes$Fund" "projects" "I"] ++ wsX00)
def wsX0_fineProduct : List Cond := .code yX0_fineProduct cX0_fineProduct 4 (some .long) :: ([.constantLong RX0 53 (65536), .fieldLink RX0 11 "DearVotes$Fund" "gifts" "[[I"] ++ wsX00)
def wsX0_root : List Cond := .code yX0_root cX0_root 6 (some .long) :: ([.constantLong RX0 55 (268435456)])
def wsX0_matchedLow : List Cond := .code yX0_matchedLow cX0_matchedLow 6 (some .long) :: ([.fieldLink RX0 23 "DearVotes$Fund" "house" "LDearVotes$House;", .fieldLink RX0 31 "DearVotes$House" "people" "I", .fieldLink RX0 16 "DearVotes$Fund" "bonds" "[[I", .constantLong RX0 44 (2), .constantLong RX0 46 (256000), .methodLink RX0 36 yX0_fineProduct, .instanceMethod yX0_fineProduct, .selects RX0 yX0_fineProduct yX0_fineProduct, .initialized RX0, .code yX0_fineProduct cX0_fineProduct 4 (some .long), .constantLong RX0 53 (65536), .fieldLink RX0 11 "DearVotes$Fund" "gifts" "[[I", .methodLink RX0 40 yX0_root, .static yX0_root, .code yX0_root cX0_root 6 (some .long), .constantLong RX0 55 (268435456)] ++ wsX00 ++ wsX10)
def wsX0_matchedUndamped : List Cond := .code yX0_matchedUndamped cX0_matchedUndamped 6 (some .long) :: ([.fieldLink RX0 23 "DearVotes$Fund" "house" "LDearVotes$House;", .fieldLink RX0 31 "DearVotes$House" "people" "I", .constantLong RX0 48 (1000), .constantLong RX0 44 (2), .constantLong RX0 46 (256000), .methodLink RX0 36 yX0_fineProduct, .instanceMethod yX0_fineProduct, .selects RX0 yX0_fineProduct yX0_fineProduct, .initialized RX0, .code yX0_fineProduct cX0_fineProduct 4 (some .long), .constantLong RX0 53 (65536), .fieldLink RX0 11 "DearVotes$Fund" "gifts" "[[I", .methodLink RX0 40 yX0_root, .static yX0_root, .code yX0_root cX0_root 6 (some .long), .constantLong RX0 55 (268435456)] ++ wsX00 ++ wsX10)
def wsX0_rootAbove : List Cond := .code yX0_rootAbove cX0_rootAbove 4 (some .long) :: ([.methodLink RX0 40 yX0_root, .static yX0_root, .initialized RX0, .code yX0_root cX0_root 6 (some .long), .constantLong RX0 55 (268435456)])
def wsX0_matchedHigh : List Cond := .code yX0_matchedHigh cX0_matchedHigh 6 (some .long) :: ([.fieldLink RX0 23 "DearVotes$Fund" "house" "LDearVotes$House;", .fieldLink RX0 31 "DearVotes$House" "people" "I", .fieldLink RX0 16 "DearVotes$Fund" "bonds" "[[I", .constantLong RX0 44 (2), .constantLong RX0 46 (256000), .methodLink RX0 36 yX0_fineProduct, .instanceMethod yX0_fineProduct, .selects RX0 yX0_fineProduct yX0_fineProduct, .initialized RX0, .code yX0_fineProduct cX0_fineProduct 4 (some .long), .constantLong RX0 53 (65536), .fieldLink RX0 11 "DearVotes$Fund" "gifts" "[[I", .methodLink RX0 50 yX0_rootAbove, .static yX0_rootAbove, .code yX0_rootAbove cX0_rootAbove 4 (some .long), .methodLink RX0 40 yX0_root, .static yX0_root, .code yX0_root cX0_root 6 (some .long), .constantLong RX0 55 (268435456)] ++ wsX00 ++ wsX10)
def wsX0_shareOf : List Cond := .code yX0_shareOf cX0_shareOf 14 (some .long) :: ([.fieldLink RX0 27 "DearVotes$Fund" "projects" "I", .fieldLink RX0 19 "DearVotes$Fund" "lows" "[J", .methodLink RX0 57 yX0_matchedLow, .instanceMethod yX0_matchedLow, .selects RX0 yX0_matchedLow yX0_matchedLow, .initialized RX0, .code yX0_matchedLow cX0_matchedLow 6 (some .long), .fieldLink RX0 23 "DearVotes$Fund" "house" "LDearVotes$House;", .fieldLink RX0 31 "DearVotes$House" "people" "I", .fieldLink RX0 16 "DearVotes$Fund" "bonds" "[[I", .constantLong RX0 44 (2), .constantLong RX0 46 (256000), .methodLink RX0 36 yX0_fineProduct, .instanceMethod yX0_fineProduct, .selects RX0 yX0_fineProduct yX0_fineProduct, .code yX0_fineProduct cX0_fineProduct 4 (some .long), .constantLong RX0 53 (65536), .fieldLink RX0 11 "DearVotes$Fund" "gifts" "[[I", .methodLink RX0 40 yX0_root, .static yX0_root, .code yX0_root cX0_root 6 (some .long), .constantLong RX0 55 (268435456)] ++ wsX00 ++ wsX10)
def wsX0_digestPerson : List Cond := .code yX0_digestPerson cX0_digestPerson 7 (some .long) :: ([.fieldLink RX0 27 "DearVotes$Fund" "projects" "I", .constantLong RX0 61 (31), .fieldLink RX0 11 "DearVotes$Fund" "gifts" "[[I", .fieldLink RX0 16 "DearVotes$Fund" "bonds" "[[I"] ++ wsX00)
def wsX1_init : List Cond := .code yX1_init cX1_init 1 none :: ([.methodLink RX1 3 objectInit, .instanceMethod objectInit, .code objectInit ⟨#[0xb1]⟩ 1 none, .arrayClass .int, .fieldLink RX1 9 "DearVotes$House" "budgets" "[I", .arrayClass .boolean, .fieldLink RX1 15 "DearVotes$House" "present" "[Z", .classLink RX1 19 "[[I", .fieldLink RX1 21 "DearVotes$House" "voices" "[[I", .fieldLink RX1 24 "DearVotes$House" "worths" "[[I"] ++ wsX10)
def wsX1_hasPerson : List Cond := .code yX1_hasPerson cX1_hasPerson 2 (some .boolean) :: ([.fieldLink RX1 27 "DearVotes$House" "people" "I"] ++ wsX10)
def wsX1_hasQuestion : List Cond := .code yX1_hasQuestion cX1_hasQuestion 2 (some .boolean) :: ([.fieldLink RX1 31 "DearVotes$House" "questions" "I"] ++ wsX10)
def wsX1_addPerson : List Cond := .code yX1_addPerson cX1_addPerson 2 (some .int) :: ([.fieldLink RX1 9 "DearVotes$House" "budgets" "[I", .fieldLink RX1 27 "DearVotes$House" "people" "I", .fieldLink RX1 15 "DearVotes$House" "present" "[Z"] ++ wsX10)
def wsX1_peoplePresent : List Cond := .code yX1_peoplePresent cX1_peoplePresent 3 (some .int) :: ([.fieldLink RX1 27 "DearVotes$House" "people" "I", .fieldLink RX1 15 "DearVotes$House" "present" "[Z"] ++ wsX10)
def wsX1_costOf : List Cond := .code yX1_costOf cX1_costOf 4 (some .int) :: ([.fieldLink RX1 31 "DearVotes$House" "questions" "I", .fieldLink RX1 21 "DearVotes$House" "voices" "[[I"] ++ wsX10)
def wsX1_countOf : List Cond := .code yX1_countOf cX1_countOf 4 (some .int) :: ([.fieldLink RX1 27 "DearVotes$House" "people" "I", .fieldLink RX1 15 "DearVotes$House" "present" "[Z", .fieldLink RX1 21 "DearVotes$House" "voices" "[[I"] ++ wsX10)
def wsX1_countWithout : List Cond := .code yX1_countWithout cX1_countWithout 4 (some .int) :: ([.fieldLink RX1 15 "DearVotes$House" "present" "[Z", .fieldLink RX1 21 "DearVotes$House" "voices" "[[I", .methodLink RX1 34 yX1_countOf, .instanceMethod yX1_countOf, .selects RX1 yX1_countOf yX1_countOf, .initialized RX1, .code yX1_countOf cX1_countOf 4 (some .int), .fieldLink RX1 27 "DearVotes$House" "people" "I"] ++ wsX10)
def wsX1_resultOf : List Cond := .code yX1_resultOf cX1_resultOf 5 (some .int) :: ([.fieldLink RX1 38 "DearVotes$House" "seed" "I", .constant RX1 41 (1664525), .constant RX1 42 (1013904223)] ++ wsX10)
def wsX1_gainBy : List Cond := .code yX1_gainBy cX1_gainBy 2 (some .int) :: ([])
def wsX1_gainOf : List Cond := .code yX1_gainOf cX1_gainOf 4 (some .int) :: ([.fieldLink RX1 31 "DearVotes$House" "questions" "I", .fieldLink RX1 24 "DearVotes$House" "worths" "[[I", .methodLink RX1 34 yX1_countOf, .instanceMethod yX1_countOf, .selects RX1 yX1_countOf yX1_countOf, .initialized RX1, .code yX1_countOf cX1_countOf 4 (some .int), .fieldLink RX1 27 "DearVotes$House" "people" "I", .fieldLink RX1 15 "DearVotes$House" "present" "[Z", .fieldLink RX1 21 "DearVotes$House" "voices" "[[I", .methodLink RX1 43 yX1_gainBy, .static yX1_gainBy, .code yX1_gainBy cX1_gainBy 2 (some .int)] ++ wsX10)
def wsX1_swingsOf : List Cond := .code yX1_swingsOf cX1_swingsOf 5 (some .int) :: ([.fieldLink RX1 31 "DearVotes$House" "questions" "I", .fieldLink RX1 21 "DearVotes$House" "voices" "[[I", .methodLink RX1 47 yX1_countWithout, .instanceMethod yX1_countWithout, .selects RX1 yX1_countWithout yX1_countWithout, .initialized RX1, .code yX1_countWithout cX1_countWithout 4 (some .int), .fieldLink RX1 15 "DearVotes$House" "present" "[Z", .methodLink RX1 34 yX1_countOf, .instanceMethod yX1_countOf, .selects RX1 yX1_countOf yX1_countOf, .code yX1_countOf cX1_countOf 4 (some .int), .fieldLink RX1 27 "DearVotes$House" "people" "I", .methodLink RX1 50 yX1_resultOf, .instanceMethod yX1_resultOf, .selects RX1 yX1_resultOf yX1_resultOf, .code yX1_resultOf cX1_resultOf 5 (some .int), .fieldLink RX1 38 "DearVotes$House" "seed" "I", .constant RX1 41 (1664525), .constant RX1 42 (1013904223)] ++ wsX10)
def wsX1_likenessOf : List Cond := .code yX1_likenessOf cX1_likenessOf 8 (some .int) :: ([.fieldLink RX1 31 "DearVotes$House" "questions" "I", .fieldLink RX1 21 "DearVotes$House" "voices" "[[I", .constantLong RX1 56 (1000), .methodLink RX1 53 yX1_costOf, .instanceMethod yX1_costOf, .selects RX1 yX1_costOf yX1_costOf, .initialized RX1, .code yX1_costOf cX1_costOf 4 (some .int)] ++ wsX10)
def wsX1_alikeTo : List Cond := .code yX1_alikeTo cX1_alikeTo 5 (some .int) :: ([.fieldLink RX1 27 "DearVotes$House" "people" "I", .methodLink RX1 61 yX1_likenessOf, .instanceMethod yX1_likenessOf, .selects RX1 yX1_likenessOf yX1_likenessOf, .initialized RX1, .code yX1_likenessOf cX1_likenessOf 8 (some .int), .fieldLink RX1 31 "DearVotes$House" "questions" "I", .fieldLink RX1 21 "DearVotes$House" "voices" "[[I", .constantLong RX1 56 (1000), .methodLink RX1 53 yX1_costOf, .instanceMethod yX1_costOf, .selects RX1 yX1_costOf yX1_costOf, .code yX1_costOf cX1_costOf 4 (some .int)] ++ wsX10)
def wsX1_groupOf : List Cond := .code yX1_groupOf cX1_groupOf 7 (some .int) :: ([.fieldLink RX1 27 "DearVotes$House" "people" "I", .methodLink RX1 58 yX1_alikeTo, .instanceMethod yX1_alikeTo, .selects RX1 yX1_alikeTo yX1_alikeTo, .initialized RX1, .code yX1_alikeTo cX1_alikeTo 5 (some .int), .methodLink RX1 61 yX1_likenessOf, .instanceMethod yX1_likenessOf, .selects RX1 yX1_likenessOf yX1_likenessOf, .code yX1_likenessOf cX1_likenessOf 8 (some .int), .fieldLink RX1 31 "DearVotes$House" "questions" "I", .fieldLink RX1 21 "DearVotes$House" "voices" "[[I", .constantLong RX1 56 (1000), .methodLink RX1 53 yX1_costOf, .instanceMethod yX1_costOf, .selects RX1 yX1_costOf yX1_costOf, .code yX1_costOf cX1_costOf 4 (some .int)] ++ wsX10)
def wsX1_voicesInOne : List Cond := .code yX1_voicesInOne cX1_voicesInOne 5 (some .long) :: ([.fieldLink RX1 31 "DearVotes$House" "questions" "I", .constantLong RX1 64 (81), .fieldLink RX1 21 "DearVotes$House" "voices" "[[I", .constantLong RX1 66 (40)] ++ wsX10)
def wsX1_digestPerson : List Cond := .code yX1_digestPerson cX1_digestPerson 7 (some .long) :: ([.constantLong RX1 68 (31), .fieldLink RX1 9 "DearVotes$House" "budgets" "[I", .fieldLink RX1 15 "DearVotes$House" "present" "[Z", .fieldLink RX1 31 "DearVotes$House" "questions" "I", .fieldLink RX1 21 "DearVotes$House" "voices" "[[I", .fieldLink RX1 24 "DearVotes$House" "worths" "[[I"] ++ wsX10)
def wsX2_init : List Cond := .code yX2_init cX2_init 3 none :: ([.methodLink RX2 3 objectInit, .instanceMethod objectInit, .code objectInit ⟨#[0xb1]⟩ 1 none, .classLink RX2 9 "[[J", .arrayClass .long, .fieldLink RX2 11 "DearVotes$Rounds" "trail" "[[J", .fieldLink RX2 16 "DearVotes$Rounds" "ending" "I", .fieldLink RX2 20 "DearVotes$Rounds" "house" "LDearVotes$House;", .fieldLink RX2 24 "DearVotes$Rounds" "search" "LDearVotes$Search;"] ++ wsX20)
def wsX2_noteVoices : List Cond := .code yX2_noteVoices cX2_noteVoices 3 none :: ([.fieldLink RX2 20 "DearVotes$Rounds" "house" "LDearVotes$House;", .fieldLink RX2 49 "DearVotes$House" "people" "I", .fieldLink RX2 11 "DearVotes$Rounds" "trail" "[[J", .methodLink RX2 73 yX1_voicesInOne, .instanceMethod yX1_voicesInOne, .selects RX1 yX1_voicesInOne yX1_voicesInOne, .initialized RX1, .code yX1_voicesInOne cX1_voicesInOne 5 (some .long), .fieldLink RX1 31 "DearVotes$House" "questions" "I", .constantLong RX1 64 (81), .fieldLink RX1 21 "DearVotes$House" "voices" "[[I", .constantLong RX1 66 (40)] ++ wsX20 ++ wsX10)
def wsX3_addChoice : List Cond := .code yX3_addChoice cX3_addChoice 5 none :: ([.fieldLink RX3 9 "DearVotes$Search" "choices" "[I", .fieldLink RX3 17 "DearVotes$Search" "choiceVoices" "[[I", .fieldLink RX3 20 "DearVotes$Search" "choiceGains" "[[I"] ++ wsX30)
def wsX3_listChoices : List Cond := .code yX3_listChoices cX3_listChoices 6 none :: ([.fieldLink RX3 9 "DearVotes$Search" "choices" "[I", .methodLink RX3 79 yX1_gainBy, .static yX1_gainBy, .initialized RX1, .code yX1_gainBy cX1_gainBy 2 (some .int), .methodLink RX3 82 yX3_addChoice, .instanceMethod yX3_addChoice, .selects RX3 yX3_addChoice yX3_addChoice, .initialized RX3, .code yX3_addChoice cX3_addChoice 5 none, .fieldLink RX3 17 "DearVotes$Search" "choiceVoices" "[[I", .fieldLink RX3 20 "DearVotes$Search" "choiceGains" "[[I"] ++ wsX30)
def wsX3_triedIsLess : List Cond := .code yX3_triedIsLess cX3_triedIsLess 2 (some .boolean) :: ([.fieldLink RX3 32 "DearVotes$Search" "house" "LDearVotes$House;", .fieldLink RX3 52 "DearVotes$House" "questions" "I", .fieldLink RX3 26 "DearVotes$Search" "tried" "[I", .fieldLink RX3 29 "DearVotes$Search" "found" "[I"] ++ wsX30 ++ wsX10)
def wsX3_keepIfBetter : List Cond := .code yX3_keepIfBetter cX3_keepIfBetter 3 none :: ([.fieldLink RX3 46 "DearVotes$Search" "foundGain" "I", .fieldLink RX3 49 "DearVotes$Search" "foundCost" "I", .fieldLink RX3 26 "DearVotes$Search" "tried" "[I", .fieldLink RX3 29 "DearVotes$Search" "found" "[I", .fieldLink RX3 32 "DearVotes$Search" "house" "LDearVotes$House;", .fieldLink RX3 52 "DearVotes$House" "questions" "I", .methodLink RX3 73 arraycopyName, .native arraycopyName, .static arraycopyName, .initialized "java/lang/System", .methodLink RX3 89 yX3_triedIsLess, .instanceMethod yX3_triedIsLess, .selects RX3 yX3_triedIsLess yX3_triedIsLess, .initialized RX3, .code yX3_triedIsLess cX3_triedIsLess 2 (some .boolean)] ++ wsX30 ++ wsX10)
def wsX3_tryFrom_r1 : List Cond := [Cond.fieldLink RX3 32 "DearVotes$Search" "house" "LDearVotes$House;", Cond.fieldLink RX3 52 "DearVotes$House" "questions" "I", Cond.fieldLink RX3 23 "DearVotes$Search" "gainAhead" "[I", Cond.fieldLink RX3 46 "DearVotes$Search" "foundGain" "I", Cond.fieldLink RX3 49 "DearVotes$Search" "foundCost" "I", Cond.fieldLink RX3 9 "DearVotes$Search" "choices" "[I", Cond.fieldLink RX3 17 "DearVotes$Search" "choiceVoices" "[[I", Cond.fieldLink RX3 41 "DearVotes$Search" "budget" "I", Cond.fieldLink RX3 26 "DearVotes$Search" "tried" "[I", Cond.fieldLink RX3 20 "DearVotes$Search" "choiceGains" "[[I", Cond.methodLink RX3 85 yX3_keepIfBetter, Cond.instanceMethod yX3_keepIfBetter, Cond.selects RX3 yX3_keepIfBetter yX3_keepIfBetter, Cond.initialized RX3, Cond.code yX3_keepIfBetter cX3_keepIfBetter 3 none, Cond.fieldLink RX3 29 "DearVotes$Search" "found" "[I", Cond.methodLink RX3 73 arraycopyName, Cond.native arraycopyName, Cond.static arraycopyName, Cond.initialized "java/lang/System", Cond.methodLink RX3 89 yX3_triedIsLess, Cond.instanceMethod yX3_triedIsLess, Cond.selects RX3 yX3_triedIsLess yX3_triedIsLess, Cond.code yX3_triedIsLess cX3_triedIsLess 2 (some .boolean)]
def wsX3_tryFrom_r2 : List Cond := [Cond.methodLink RX3 66 yX3_tryFrom, Cond.static yX3_tryFrom]
def wsX3_tryFrom : List Cond := .code yX3_tryFrom cX3_tryFrom 7 none :: ((wsX3_tryFrom_r1 ++ wsX3_tryFrom_r2) ++ wsX30 ++ wsX10)
def wsX3_findFor_r1 : List Cond := [Cond.fieldLink RX3 32 "DearVotes$Search" "house" "LDearVotes$House;", Cond.fieldLink RX3 36 "DearVotes$House" "budgets" "[I", Cond.fieldLink RX3 41 "DearVotes$Search" "budget" "I", Cond.constant RX3 45 (-1000000), Cond.fieldLink RX3 46 "DearVotes$Search" "foundGain" "I", Cond.fieldLink RX3 49 "DearVotes$Search" "foundCost" "I", Cond.fieldLink RX3 23 "DearVotes$Search" "gainAhead" "[I", Cond.fieldLink RX3 52 "DearVotes$House" "questions" "I", Cond.fieldLink RX3 59 "DearVotes$House" "worths" "[[I", Cond.fieldLink RX3 20 "DearVotes$Search" "choiceGains" "[[I", Cond.methodLink RX3 55 yX1_countWithout, Cond.instanceMethod yX1_countWithout, Cond.selects RX1 yX1_countWithout yX1_countWithout, Cond.initialized RX1, Cond.code yX1_countWithout cX1_countWithout 4 (some .int), Cond.fieldLink RX1 15 "DearVotes$House" "present" "[Z", Cond.fieldLink RX1 21 "DearVotes$House" "voices" "[[I", Cond.methodLink RX1 34 yX1_countOf, Cond.instanceMethod yX1_countOf, Cond.selects RX1 yX1_countOf yX1_countOf, Cond.code yX1_countOf cX1_countOf 4 (some .int), Cond.fieldLink RX1 27 "DearVotes$House" "people" "I", Cond.methodLink RX3 62 yX3_listChoices, Cond.instanceMethod yX3_listChoices]
def wsX3_findFor_r2 : List Cond := [Cond.selects RX3 yX3_listChoices yX3_listChoices, Cond.initialized RX3, Cond.code yX3_listChoices cX3_listChoices 6 none, Cond.fieldLink RX3 9 "DearVotes$Search" "choices" "[I", Cond.methodLink RX3 79 yX1_gainBy, Cond.static yX1_gainBy, Cond.code yX1_gainBy cX1_gainBy 2 (some .int), Cond.methodLink RX3 82 yX3_addChoice, Cond.instanceMethod yX3_addChoice, Cond.selects RX3 yX3_addChoice yX3_addChoice, Cond.code yX3_addChoice cX3_addChoice 5 none, Cond.fieldLink RX3 17 "DearVotes$Search" "choiceVoices" "[[I", Cond.methodLink RX3 66 yX3_tryFrom, Cond.static yX3_tryFrom, Cond.code yX3_tryFrom cX3_tryFrom 7 none, Cond.fieldLink RX3 26 "DearVotes$Search" "tried" "[I", Cond.methodLink RX3 85 yX3_keepIfBetter, Cond.instanceMethod yX3_keepIfBetter, Cond.selects RX3 yX3_keepIfBetter yX3_keepIfBetter, Cond.code yX3_keepIfBetter cX3_keepIfBetter 3 none, Cond.fieldLink RX3 29 "DearVotes$Search" "found" "[I", Cond.methodLink RX3 73 arraycopyName, Cond.native arraycopyName, Cond.static arraycopyName]
def wsX3_findFor_r3 : List Cond := [Cond.initialized "java/lang/System", Cond.methodLink RX3 89 yX3_triedIsLess, Cond.instanceMethod yX3_triedIsLess, Cond.selects RX3 yX3_triedIsLess yX3_triedIsLess, Cond.code yX3_triedIsLess cX3_triedIsLess 2 (some .boolean)]
def wsX3_findFor : List Cond := .code yX3_findFor cX3_findFor 3 none :: ((wsX3_findFor_r1 ++ (wsX3_findFor_r2 ++ wsX3_findFor_r3)) ++ wsX30 ++ wsX10)
def wsX3_giveTo : List Cond := .code yX3_giveTo cX3_giveTo 2 none :: ([.fieldLink RX3 29 "DearVotes$Search" "found" "[I", .fieldLink RX3 32 "DearVotes$Search" "house" "LDearVotes$House;", .fieldLink RX3 70 "DearVotes$House" "voices" "[[I", .fieldLink RX3 52 "DearVotes$House" "questions" "I", .methodLink RX3 73 arraycopyName, .native arraycopyName, .static arraycopyName, .initialized "java/lang/System"] ++ wsX30 ++ wsX10)
def wsX2_doRound_r1 : List Cond := [Cond.fieldLink RX2 20 "DearVotes$Rounds" "house" "LDearVotes$House;", Cond.fieldLink RX2 49 "DearVotes$House" "people" "I", Cond.fieldLink RX2 54 "DearVotes$House" "present" "[Z", Cond.fieldLink RX2 24 "DearVotes$Rounds" "search" "LDearVotes$Search;", Cond.fieldLink RX2 63 "DearVotes$Search" "foundGain" "I", Cond.methodLink RX2 58 yX3_findFor, Cond.instanceMethod yX3_findFor, Cond.selects RX3 yX3_findFor yX3_findFor, Cond.initialized RX3, Cond.code yX3_findFor cX3_findFor 3 none, Cond.fieldLink RX3 32 "DearVotes$Search" "house" "LDearVotes$House;", Cond.fieldLink RX3 36 "DearVotes$House" "budgets" "[I", Cond.fieldLink RX3 41 "DearVotes$Search" "budget" "I", Cond.constant RX3 45 (-1000000), Cond.fieldLink RX3 46 "DearVotes$Search" "foundGain" "I", Cond.fieldLink RX3 49 "DearVotes$Search" "foundCost" "I", Cond.fieldLink RX3 23 "DearVotes$Search" "gainAhead" "[I", Cond.fieldLink RX3 52 "DearVotes$House" "questions" "I", Cond.fieldLink RX3 59 "DearVotes$House" "worths" "[[I", Cond.fieldLink RX3 20 "DearVotes$Search" "choiceGains" "[[I", Cond.methodLink RX3 55 yX1_countWithout, Cond.instanceMethod yX1_countWithout, Cond.selects RX1 yX1_countWithout yX1_countWithout, Cond.initialized RX1]
def wsX2_doRound_r2 : List Cond := [Cond.code yX1_countWithout cX1_countWithout 4 (some .int), Cond.fieldLink RX1 15 "DearVotes$House" "present" "[Z", Cond.fieldLink RX1 21 "DearVotes$House" "voices" "[[I", Cond.methodLink RX1 34 yX1_countOf, Cond.instanceMethod yX1_countOf, Cond.selects RX1 yX1_countOf yX1_countOf, Cond.code yX1_countOf cX1_countOf 4 (some .int), Cond.fieldLink RX1 27 "DearVotes$House" "people" "I", Cond.methodLink RX3 62 yX3_listChoices, Cond.instanceMethod yX3_listChoices, Cond.selects RX3 yX3_listChoices yX3_listChoices, Cond.code yX3_listChoices cX3_listChoices 6 none, Cond.fieldLink RX3 9 "DearVotes$Search" "choices" "[I", Cond.methodLink RX3 79 yX1_gainBy, Cond.static yX1_gainBy, Cond.code yX1_gainBy cX1_gainBy 2 (some .int), Cond.methodLink RX3 82 yX3_addChoice, Cond.instanceMethod yX3_addChoice, Cond.selects RX3 yX3_addChoice yX3_addChoice, Cond.code yX3_addChoice cX3_addChoice 5 none, Cond.fieldLink RX3 17 "DearVotes$Search" "choiceVoices" "[[I", Cond.methodLink RX3 66 yX3_tryFrom, Cond.static yX3_tryFrom, Cond.code yX3_tryFrom cX3_tryFrom 7 none]
def wsX2_doRound_r3 : List Cond := [Cond.fieldLink RX3 26 "DearVotes$Search" "tried" "[I", Cond.methodLink RX3 85 yX3_keepIfBetter, Cond.instanceMethod yX3_keepIfBetter, Cond.selects RX3 yX3_keepIfBetter yX3_keepIfBetter, Cond.code yX3_keepIfBetter cX3_keepIfBetter 3 none, Cond.fieldLink RX3 29 "DearVotes$Search" "found" "[I", Cond.methodLink RX3 73 arraycopyName, Cond.native arraycopyName, Cond.static arraycopyName, Cond.initialized "java/lang/System", Cond.methodLink RX3 89 yX3_triedIsLess, Cond.instanceMethod yX3_triedIsLess, Cond.selects RX3 yX3_triedIsLess yX3_triedIsLess, Cond.code yX3_triedIsLess cX3_triedIsLess 2 (some .boolean), Cond.methodLink RX2 66 yX1_gainOf, Cond.instanceMethod yX1_gainOf, Cond.selects RX1 yX1_gainOf yX1_gainOf, Cond.code yX1_gainOf cX1_gainOf 4 (some .int), Cond.fieldLink RX1 31 "DearVotes$House" "questions" "I", Cond.fieldLink RX1 24 "DearVotes$House" "worths" "[[I", Cond.methodLink RX1 43 yX1_gainBy, Cond.methodLink RX2 70 yX3_giveTo, Cond.instanceMethod yX3_giveTo, Cond.selects RX3 yX3_giveTo yX3_giveTo]
def wsX2_doRound_r4 : List Cond := [Cond.code yX3_giveTo cX3_giveTo 2 none, Cond.fieldLink RX3 70 "DearVotes$House" "voices" "[[I"]
def wsX2_doRound : List Cond := .code yX2_doRound cX2_doRound 3 (some .int) :: ((wsX2_doRound_r1 ++ (wsX2_doRound_r2 ++ (wsX2_doRound_r3 ++ wsX2_doRound_r4))) ++ wsX20 ++ wsX10 ++ wsX30)
def wsX2_isSameTrail : List Cond := .code yX2_isSameTrail cX2_isSameTrail 4 (some .boolean) :: ([.fieldLink RX2 20 "DearVotes$Rounds" "house" "LDearVotes$House;", .fieldLink RX2 49 "DearVotes$House" "people" "I", .fieldLink RX2 11 "DearVotes$Rounds" "trail" "[[J"] ++ wsX20 ++ wsX10)
def wsX2_judge : List Cond := .code yX2_judge cX2_judge 4 none :: ([.fieldLink RX2 16 "DearVotes$Rounds" "ending" "I", .fieldLink RX2 28 "DearVotes$Rounds" "ringLength" "I", .methodLink RX2 77 yX2_isSameTrail, .instanceMethod yX2_isSameTrail, .selects RX2 yX2_isSameTrail yX2_isSameTrail, .initialized RX2, .code yX2_isSameTrail cX2_isSameTrail 4 (some .boolean), .fieldLink RX2 20 "DearVotes$Rounds" "house" "LDearVotes$House;", .fieldLink RX2 49 "DearVotes$House" "people" "I", .fieldLink RX2 11 "DearVotes$Rounds" "trail" "[[J"] ++ wsX20 ++ wsX10)
def wsX2_playAtMost_r1 : List Cond := [Cond.fieldLink RX2 16 "DearVotes$Rounds" "ending" "I", Cond.fieldLink RX2 28 "DearVotes$Rounds" "ringLength" "I", Cond.fieldLink RX2 39 "DearVotes$Rounds" "doneEver" "I", Cond.fieldLink RX2 42 "DearVotes$Rounds" "changesEver" "I", Cond.methodLink RX2 31 yX2_noteVoices, Cond.instanceMethod yX2_noteVoices, Cond.selects RX2 yX2_noteVoices yX2_noteVoices, Cond.initialized RX2, Cond.code yX2_noteVoices cX2_noteVoices 3 none, Cond.fieldLink RX2 20 "DearVotes$Rounds" "house" "LDearVotes$House;", Cond.fieldLink RX2 49 "DearVotes$House" "people" "I", Cond.fieldLink RX2 11 "DearVotes$Rounds" "trail" "[[J", Cond.methodLink RX2 73 yX1_voicesInOne, Cond.instanceMethod yX1_voicesInOne, Cond.selects RX1 yX1_voicesInOne yX1_voicesInOne, Cond.initialized RX1, Cond.code yX1_voicesInOne cX1_voicesInOne 5 (some .long), Cond.fieldLink RX1 31 "DearVotes$House" "questions" "I", Cond.constantLong RX1 64 (81), Cond.fieldLink RX1 21 "DearVotes$House" "voices" "[[I", Cond.constantLong RX1 66 (40), Cond.methodLink RX2 35 yX2_doRound, Cond.instanceMethod yX2_doRound, Cond.selects RX2 yX2_doRound yX2_doRound]
def wsX2_playAtMost_r2 : List Cond := [Cond.code yX2_doRound cX2_doRound 3 (some .int), Cond.fieldLink RX2 54 "DearVotes$House" "present" "[Z", Cond.fieldLink RX2 24 "DearVotes$Rounds" "search" "LDearVotes$Search;", Cond.fieldLink RX2 63 "DearVotes$Search" "foundGain" "I", Cond.methodLink RX2 58 yX3_findFor, Cond.instanceMethod yX3_findFor, Cond.selects RX3 yX3_findFor yX3_findFor, Cond.initialized RX3, Cond.code yX3_findFor cX3_findFor 3 none, Cond.fieldLink RX3 32 "DearVotes$Search" "house" "LDearVotes$House;", Cond.fieldLink RX3 36 "DearVotes$House" "budgets" "[I", Cond.fieldLink RX3 41 "DearVotes$Search" "budget" "I", Cond.constant RX3 45 (-1000000), Cond.fieldLink RX3 46 "DearVotes$Search" "foundGain" "I", Cond.fieldLink RX3 49 "DearVotes$Search" "foundCost" "I", Cond.fieldLink RX3 23 "DearVotes$Search" "gainAhead" "[I", Cond.fieldLink RX3 52 "DearVotes$House" "questions" "I", Cond.fieldLink RX3 59 "DearVotes$House" "worths" "[[I", Cond.fieldLink RX3 20 "DearVotes$Search" "choiceGains" "[[I", Cond.methodLink RX3 55 yX1_countWithout, Cond.instanceMethod yX1_countWithout, Cond.selects RX1 yX1_countWithout yX1_countWithout, Cond.code yX1_countWithout cX1_countWithout 4 (some .int), Cond.fieldLink RX1 15 "DearVotes$House" "present" "[Z"]
def wsX2_playAtMost_r3 : List Cond := [Cond.methodLink RX1 34 yX1_countOf, Cond.instanceMethod yX1_countOf, Cond.selects RX1 yX1_countOf yX1_countOf, Cond.code yX1_countOf cX1_countOf 4 (some .int), Cond.fieldLink RX1 27 "DearVotes$House" "people" "I", Cond.methodLink RX3 62 yX3_listChoices, Cond.instanceMethod yX3_listChoices, Cond.selects RX3 yX3_listChoices yX3_listChoices, Cond.code yX3_listChoices cX3_listChoices 6 none, Cond.fieldLink RX3 9 "DearVotes$Search" "choices" "[I", Cond.methodLink RX3 79 yX1_gainBy, Cond.static yX1_gainBy, Cond.code yX1_gainBy cX1_gainBy 2 (some .int), Cond.methodLink RX3 82 yX3_addChoice, Cond.instanceMethod yX3_addChoice, Cond.selects RX3 yX3_addChoice yX3_addChoice, Cond.code yX3_addChoice cX3_addChoice 5 none, Cond.fieldLink RX3 17 "DearVotes$Search" "choiceVoices" "[[I", Cond.methodLink RX3 66 yX3_tryFrom, Cond.static yX3_tryFrom, Cond.code yX3_tryFrom cX3_tryFrom 7 none, Cond.fieldLink RX3 26 "DearVotes$Search" "tried" "[I", Cond.methodLink RX3 85 yX3_keepIfBetter, Cond.instanceMethod yX3_keepIfBetter]
def wsX2_playAtMost_r4 : List Cond := [Cond.selects RX3 yX3_keepIfBetter yX3_keepIfBetter, Cond.code yX3_keepIfBetter cX3_keepIfBetter 3 none, Cond.fieldLink RX3 29 "DearVotes$Search" "found" "[I", Cond.methodLink RX3 73 arraycopyName, Cond.native arraycopyName, Cond.static arraycopyName, Cond.initialized "java/lang/System", Cond.methodLink RX3 89 yX3_triedIsLess, Cond.instanceMethod yX3_triedIsLess, Cond.selects RX3 yX3_triedIsLess yX3_triedIsLess, Cond.code yX3_triedIsLess cX3_triedIsLess 2 (some .boolean), Cond.methodLink RX2 66 yX1_gainOf, Cond.instanceMethod yX1_gainOf, Cond.selects RX1 yX1_gainOf yX1_gainOf, Cond.code yX1_gainOf cX1_gainOf 4 (some .int), Cond.fieldLink RX1 24 "DearVotes$House" "worths" "[[I", Cond.methodLink RX1 43 yX1_gainBy, Cond.methodLink RX2 70 yX3_giveTo, Cond.instanceMethod yX3_giveTo, Cond.selects RX3 yX3_giveTo yX3_giveTo, Cond.code yX3_giveTo cX3_giveTo 2 none, Cond.fieldLink RX3 70 "DearVotes$House" "voices" "[[I", Cond.methodLink RX2 45 yX2_judge, Cond.instanceMethod yX2_judge]
def wsX2_playAtMost_r5 : List Cond := [Cond.selects RX2 yX2_judge yX2_judge, Cond.code yX2_judge cX2_judge 4 none, Cond.methodLink RX2 77 yX2_isSameTrail, Cond.instanceMethod yX2_isSameTrail, Cond.selects RX2 yX2_isSameTrail yX2_isSameTrail, Cond.code yX2_isSameTrail cX2_isSameTrail 4 (some .boolean)]
def wsX2_playAtMost : List Cond := .code yX2_playAtMost cX2_playAtMost 4 (some .int) :: ((wsX2_playAtMost_r1 ++ (wsX2_playAtMost_r2 ++ (wsX2_playAtMost_r3 ++ (wsX2_playAtMost_r4 ++ wsX2_playAtMost_r5)))) ++ wsX20 ++ wsX10 ++ wsX30)
def wsX3_init : List Cond := .code yX3_init cX3_init 2 none :: ([.methodLink RX3 3 objectInit, .instanceMethod objectInit, .code objectInit ⟨#[0xb1]⟩ 1 none, .arrayClass .int, .fieldLink RX3 9 "DearVotes$Search" "choices" "[I", .classLink RX3 15 "[[I", .fieldLink RX3 17 "DearVotes$Search" "choiceVoices" "[[I", .fieldLink RX3 20 "DearVotes$Search" "choiceGains" "[[I", .fieldLink RX3 23 "DearVotes$Search" "gainAhead" "[I", .fieldLink RX3 26 "DearVotes$Search" "tried" "[I", .fieldLink RX3 29 "DearVotes$Search" "found" "[I", .fieldLink RX3 32 "DearVotes$Search" "house" "LDearVotes$House;"] ++ wsX30)
def wsX4_init_r1 : List Cond := [Cond.methodLink RX4 1 objectInit, Cond.instanceMethod objectInit, Cond.code objectInit ⟨#[0xb1]⟩ 1 none, Cond.classLink RX4 7 RX1, Cond.instantiable RX1 7, Cond.initialized RX1, Cond.fieldLink RX4 10 "DearVotes" "house" "LDearVotes$House;", Cond.classLink RX4 16 RX3, Cond.instantiable RX3 10, Cond.initialized RX3, Cond.fieldLink RX4 21 "DearVotes" "search" "LDearVotes$Search;", Cond.classLink RX4 25 RX2, Cond.instantiable RX2 7, Cond.initialized RX2, Cond.fieldLink RX4 30 "DearVotes" "rounds" "LDearVotes$Rounds;", Cond.classLink RX4 34 RX0, Cond.instantiable RX0 5, Cond.initialized RX0, Cond.fieldLink RX4 37 "DearVotes" "fund" "LDearVotes$Fund;", Cond.instanceMethod yX1_init, Cond.code yX1_init cX1_init 1 none, Cond.methodLink RX1 3 objectInit, Cond.arrayClass .int, Cond.fieldLink RX1 9 "DearVotes$House" "budgets" "[I"]
def wsX4_init_r2 : List Cond := [Cond.arrayClass .boolean, Cond.fieldLink RX1 15 "DearVotes$House" "present" "[Z", Cond.classLink RX1 19 "[[I", Cond.fieldLink RX1 21 "DearVotes$House" "voices" "[[I", Cond.fieldLink RX1 24 "DearVotes$House" "worths" "[[I", Cond.methodLink RX4 18 yX3_init, Cond.instanceMethod yX3_init, Cond.code yX3_init cX3_init 2 none, Cond.methodLink RX3 3 objectInit, Cond.fieldLink RX3 9 "DearVotes$Search" "choices" "[I", Cond.classLink RX3 15 "[[I", Cond.fieldLink RX3 17 "DearVotes$Search" "choiceVoices" "[[I", Cond.fieldLink RX3 20 "DearVotes$Search" "choiceGains" "[[I", Cond.fieldLink RX3 23 "DearVotes$Search" "gainAhead" "[I", Cond.fieldLink RX3 26 "DearVotes$Search" "tried" "[I", Cond.fieldLink RX3 29 "DearVotes$Search" "found" "[I", Cond.fieldLink RX3 32 "DearVotes$Search" "house" "LDearVotes$House;", Cond.methodLink RX4 27 yX2_init, Cond.instanceMethod yX2_init, Cond.code yX2_init cX2_init 3 none, Cond.methodLink RX2 3 objectInit, Cond.classLink RX2 9 "[[J", Cond.arrayClass .long, Cond.fieldLink RX2 11 "DearVotes$Rounds" "trail" "[[J"]
def wsX4_init_r3 : List Cond := [Cond.fieldLink RX2 16 "DearVotes$Rounds" "ending" "I", Cond.fieldLink RX2 20 "DearVotes$Rounds" "house" "LDearVotes$House;", Cond.fieldLink RX2 24 "DearVotes$Rounds" "search" "LDearVotes$Search;", Cond.methodLink RX4 36 yX0_init, Cond.instanceMethod yX0_init, Cond.code yX0_init cX0_init 4 none, Cond.methodLink RX0 3 objectInit, Cond.classLink RX0 9 "[[I", Cond.fieldLink RX0 11 "DearVotes$Fund" "gifts" "[[I", Cond.fieldLink RX0 16 "DearVotes$Fund" "bonds" "[[I", Cond.fieldLink RX0 19 "DearVotes$Fund" "lows" "[J", Cond.fieldLink RX0 23 "DearVotes$Fund" "house" "LDearVotes$House;"]
def wsX4_init : List Cond := .code yX4_init cX4_init 1 none :: ((wsX4_init_r1 ++ (wsX4_init_r2 ++ wsX4_init_r3)) ++ wsX10 ++ wsX40 ++ wsX30 ++ wsX20 ++ wsX00)
def wsX4_isWithin : List Cond := .code yX4_isWithin cX4_isWithin 3 (some .boolean) :: ([])
def wsX4_person : List Cond := .code yX4_person cX4_person 2 (some .int) :: ([.fieldLink RX4 10 "DearVotes" "house" "LDearVotes$House;", .fieldLink RX4 45 "DearVotes$House" "people" "I", .methodLink RX4 41 yX4_isWithin, .static yX4_isWithin, .initialized RX4, .code yX4_isWithin cX4_isWithin 3 (some .boolean), .methodLink RX4 49 yX1_addPerson, .instanceMethod yX1_addPerson, .selects RX1 yX1_addPerson yX1_addPerson, .initialized RX1, .code yX1_addPerson cX1_addPerson 2 (some .int), .fieldLink RX1 9 "DearVotes$House" "budgets" "[I", .fieldLink RX1 27 "DearVotes$House" "people" "I", .fieldLink RX1 15 "DearVotes$House" "present" "[Z"] ++ wsX40 ++ wsX10)
def wsX4_question : List Cond := .code yX4_question cX4_question 1 (some .int) :: ([.fieldLink RX4 10 "DearVotes" "house" "LDearVotes$House;", .fieldLink RX4 53 "DearVotes$House" "questions" "I"] ++ wsX40 ++ wsX10)
def wsX4_project : List Cond := .code yX4_project cX4_project 1 (some .int) :: ([.fieldLink RX4 37 "DearVotes" "fund" "LDearVotes$Fund;", .fieldLink RX4 56 "DearVotes$Fund" "projects" "I"] ++ wsX40 ++ wsX00)
def wsX4_seed : List Cond := .code yX4_seed cX4_seed 3 (some .int) :: ([.fieldLink RX4 10 "DearVotes" "house" "LDearVotes$House;", .fieldLink RX4 59 "DearVotes$House" "seed" "I"] ++ wsX40 ++ wsX10)
def wsX4_vote : List Cond := .code yX4_vote cX4_vote 6 (some .int) :: ([.fieldLink RX4 10 "DearVotes" "house" "LDearVotes$House;", .fieldLink RX4 69 "DearVotes$House" "voices" "[[I", .fieldLink RX4 76 "DearVotes$House" "budgets" "[I", .methodLink RX4 62 yX1_hasPerson, .instanceMethod yX1_hasPerson, .selects RX1 yX1_hasPerson yX1_hasPerson, .initialized RX1, .code yX1_hasPerson cX1_hasPerson 2 (some .boolean), .fieldLink RX1 27 "DearVotes$House" "people" "I", .methodLink RX4 66 yX1_hasQuestion, .instanceMethod yX1_hasQuestion, .selects RX1 yX1_hasQuestion yX1_hasQuestion, .code yX1_hasQuestion cX1_hasQuestion 2 (some .boolean), .fieldLink RX1 31 "DearVotes$House" "questions" "I", .methodLink RX4 41 yX4_isWithin, .static yX4_isWithin, .initialized RX4, .code yX4_isWithin cX4_isWithin 3 (some .boolean), .methodLink RX4 73 yX1_costOf, .instanceMethod yX1_costOf, .selects RX1 yX1_costOf yX1_costOf, .code yX1_costOf cX1_costOf 4 (some .int), .fieldLink RX1 21 "DearVotes$House" "voices" "[[I"] ++ wsX40 ++ wsX10)
def wsX4_worth : List Cond := .code yX4_worth cX4_worth 5 (some .int) :: ([.fieldLink RX4 10 "DearVotes" "house" "LDearVotes$House;", .fieldLink RX4 80 "DearVotes$House" "worths" "[[I", .methodLink RX4 62 yX1_hasPerson, .instanceMethod yX1_hasPerson, .selects RX1 yX1_hasPerson yX1_hasPerson, .initialized RX1, .code yX1_hasPerson cX1_hasPerson 2 (some .boolean), .fieldLink RX1 27 "DearVotes$House" "people" "I", .methodLink RX4 66 yX1_hasQuestion, .instanceMethod yX1_hasQuestion, .selects RX1 yX1_hasQuestion yX1_hasQuestion, .code yX1_hasQuestion cX1_hasQuestion 2 (some .boolean), .fieldLink RX1 31 "DearVotes$House" "questions" "I", .methodLink RX4 41 yX4_isWithin, .static yX4_isWithin, .initialized RX4, .code yX4_isWithin cX4_isWithin 3 (some .boolean)] ++ wsX40 ++ wsX10)
def wsX4_here : List Cond := .code yX4_here cX4_here 4 (some .int) :: ([.fieldLink RX4 10 "DearVotes" "house" "LDearVotes$House;", .fieldLink RX4 83 "DearVotes$House" "present" "[Z", .methodLink RX4 62 yX1_hasPerson, .instanceMethod yX1_hasPerson, .selects RX1 yX1_hasPerson yX1_hasPerson, .initialized RX1, .code yX1_hasPerson cX1_hasPerson 2 (some .boolean), .fieldLink RX1 27 "DearVotes$House" "people" "I"] ++ wsX40 ++ wsX10)
def wsX4_voices : List Cond := .code yX4_voices cX4_voices 3 (some .int) :: ([.fieldLink RX4 10 "DearVotes" "house" "LDearVotes$House;", .fieldLink RX4 69 "DearVotes$House" "voices" "[[I", .methodLink RX4 62 yX1_hasPerson, .instanceMethod yX1_hasPerson, .selects RX1 yX1_hasPerson yX1_hasPerson, .initialized RX1, .code yX1_hasPerson cX1_hasPerson 2 (some .boolean), .fieldLink RX1 27 "DearVotes$House" "people" "I", .methodLink RX4 66 yX1_hasQuestion, .instanceMethod yX1_hasQuestion, .selects RX1 yX1_hasQuestion yX1_hasQuestion, .code yX1_hasQuestion cX1_hasQuestion 2 (some .boolean), .fieldLink RX1 31 "DearVotes$House" "questions" "I"] ++ wsX40 ++ wsX10)
def wsX4_cost : List Cond := .code yX4_cost cX4_cost 2 (some .int) :: ([.fieldLink RX4 10 "DearVotes" "house" "LDearVotes$House;", .methodLink RX4 62 yX1_hasPerson, .instanceMethod yX1_hasPerson, .selects RX1 yX1_hasPerson yX1_hasPerson, .initialized RX1, .code yX1_hasPerson cX1_hasPerson 2 (some .boolean), .fieldLink RX1 27 "DearVotes$House" "people" "I", .methodLink RX4 73 yX1_costOf, .instanceMethod yX1_costOf, .selects RX1 yX1_costOf yX1_costOf, .code yX1_costOf cX1_costOf 4 (some .int), .fieldLink RX1 31 "DearVotes$House" "questions" "I", .fieldLink RX1 21 "DearVotes$House" "voices" "[[I"] ++ wsX40 ++ wsX10)
def wsX4_total : List Cond := .code yX4_total cX4_total 2 (some .int) :: ([.fieldLink RX4 10 "DearVotes" "house" "LDearVotes$House;", .methodLink RX4 66 yX1_hasQuestion, .instanceMethod yX1_hasQuestion, .selects RX1 yX1_hasQuestion yX1_hasQuestion, .initialized RX1, .code yX1_hasQuestion cX1_hasQuestion 2 (some .boolean), .fieldLink RX1 31 "DearVotes$House" "questions" "I", .methodLink RX4 87 yX1_countOf, .instanceMethod yX1_countOf, .selects RX1 yX1_countOf yX1_countOf, .code yX1_countOf cX1_countOf 4 (some .int), .fieldLink RX1 27 "DearVotes$House" "people" "I", .fieldLink RX1 15 "DearVotes$House" "present" "[Z", .fieldLink RX1 21 "DearVotes$House" "voices" "[[I"] ++ wsX40 ++ wsX10)
def wsX4_result : List Cond := .code yX4_result cX4_result 2 (some .int) :: ([.fieldLink RX4 10 "DearVotes" "house" "LDearVotes$House;", .methodLink RX4 66 yX1_hasQuestion, .instanceMethod yX1_hasQuestion, .selects RX1 yX1_hasQuestion yX1_hasQuestion, .initialized RX1, .code yX1_hasQuestion cX1_hasQuestion 2 (some .boolean), .fieldLink RX1 31 "DearVotes$House" "questions" "I", .methodLink RX4 87 yX1_countOf, .instanceMethod yX1_countOf, .selects RX1 yX1_countOf yX1_countOf, .code yX1_countOf cX1_countOf 4 (some .int), .fieldLink RX1 27 "DearVotes$House" "people" "I", .fieldLink RX1 15 "DearVotes$House" "present" "[Z", .fieldLink RX1 21 "DearVotes$House" "voices" "[[I", .methodLink RX4 90 yX1_resultOf, .instanceMethod yX1_resultOf, .selects RX1 yX1_resultOf yX1_resultOf, .code yX1_resultOf cX1_resultOf 5 (some .int), .fieldLink RX1 38 "DearVotes$House" "seed" "I", .constant RX1 41 (1664525), .constant RX1 42 (1013904223)] ++ wsX40 ++ wsX10)
def wsX4_gain : List Cond := .code yX4_gain cX4_gain 2 (some .int) :: ([.fieldLink RX4 10 "DearVotes" "house" "LDearVotes$House;", .constant RX4 94 (-2000000), .methodLink RX4 62 yX1_hasPerson, .instanceMethod yX1_hasPerson, .selects RX1 yX1_hasPerson yX1_hasPerson, .initialized RX1, .code yX1_hasPerson cX1_hasPerson 2 (some .boolean), .fieldLink RX1 27 "DearVotes$House" "people" "I", .methodLink RX4 95 yX1_gainOf, .instanceMethod yX1_gainOf, .selects RX1 yX1_gainOf yX1_gainOf, .code yX1_gainOf cX1_gainOf 4 (some .int), .fieldLink RX1 31 "DearVotes$House" "questions" "I", .fieldLink RX1 24 "DearVotes$House" "worths" "[[I", .methodLink RX1 34 yX1_countOf, .instanceMethod yX1_countOf, .selects RX1 yX1_countOf yX1_countOf, .code yX1_countOf cX1_countOf 4 (some .int), .fieldLink RX1 15 "DearVotes$House" "present" "[Z", .fieldLink RX1 21 "DearVotes$House" "voices" "[[I", .methodLink RX1 43 yX1_gainBy, .static yX1_gainBy, .code yX1_gainBy cX1_gainBy 2 (some .int)] ++ wsX40 ++ wsX10)
def wsX4_swings_r1 : List Cond := [Cond.fieldLink RX4 10 "DearVotes" "house" "LDearVotes$House;", Cond.methodLink RX4 62 yX1_hasPerson, Cond.instanceMethod yX1_hasPerson, Cond.selects RX1 yX1_hasPerson yX1_hasPerson, Cond.initialized RX1, Cond.code yX1_hasPerson cX1_hasPerson 2 (some .boolean), Cond.fieldLink RX1 27 "DearVotes$House" "people" "I", Cond.methodLink RX4 98 yX1_swingsOf, Cond.instanceMethod yX1_swingsOf, Cond.selects RX1 yX1_swingsOf yX1_swingsOf, Cond.code yX1_swingsOf cX1_swingsOf 5 (some .int), Cond.fieldLink RX1 31 "DearVotes$House" "questions" "I", Cond.fieldLink RX1 21 "DearVotes$House" "voices" "[[I", Cond.methodLink RX1 47 yX1_countWithout, Cond.instanceMethod yX1_countWithout, Cond.selects RX1 yX1_countWithout yX1_countWithout, Cond.code yX1_countWithout cX1_countWithout 4 (some .int), Cond.fieldLink RX1 15 "DearVotes$House" "present" "[Z", Cond.methodLink RX1 34 yX1_countOf, Cond.instanceMethod yX1_countOf, Cond.selects RX1 yX1_countOf yX1_countOf, Cond.code yX1_countOf cX1_countOf 4 (some .int), Cond.methodLink RX1 50 yX1_resultOf, Cond.instanceMethod yX1_resultOf]
def wsX4_swings_r2 : List Cond := [Cond.selects RX1 yX1_resultOf yX1_resultOf, Cond.code yX1_resultOf cX1_resultOf 5 (some .int), Cond.fieldLink RX1 38 "DearVotes$House" "seed" "I", Cond.constant RX1 41 (1664525), Cond.constant RX1 42 (1013904223)]
def wsX4_swings : List Cond := .code yX4_swings cX4_swings 2 (some .int) :: ((wsX4_swings_r1 ++ wsX4_swings_r2) ++ wsX40 ++ wsX10)
def wsX4_best_r1 : List Cond := [Cond.fieldLink RX4 10 "DearVotes" "house" "LDearVotes$House;", Cond.constant RX4 94 (-2000000), Cond.fieldLink RX4 21 "DearVotes" "search" "LDearVotes$Search;", Cond.fieldLink RX4 105 "DearVotes$Search" "foundGain" "I", Cond.methodLink RX4 62 yX1_hasPerson, Cond.instanceMethod yX1_hasPerson, Cond.selects RX1 yX1_hasPerson yX1_hasPerson, Cond.initialized RX1, Cond.code yX1_hasPerson cX1_hasPerson 2 (some .boolean), Cond.fieldLink RX1 27 "DearVotes$House" "people" "I", Cond.methodLink RX4 101 yX3_findFor, Cond.instanceMethod yX3_findFor, Cond.selects RX3 yX3_findFor yX3_findFor, Cond.initialized RX3, Cond.code yX3_findFor cX3_findFor 3 none, Cond.fieldLink RX3 32 "DearVotes$Search" "house" "LDearVotes$House;", Cond.fieldLink RX3 36 "DearVotes$House" "budgets" "[I", Cond.fieldLink RX3 41 "DearVotes$Search" "budget" "I", Cond.constant RX3 45 (-1000000), Cond.fieldLink RX3 46 "DearVotes$Search" "foundGain" "I", Cond.fieldLink RX3 49 "DearVotes$Search" "foundCost" "I", Cond.fieldLink RX3 23 "DearVotes$Search" "gainAhead" "[I", Cond.fieldLink RX3 52 "DearVotes$House" "questions" "I", Cond.fieldLink RX3 59 "DearVotes$House" "worths" "[[I"]
def wsX4_best_r2 : List Cond := [Cond.fieldLink RX3 20 "DearVotes$Search" "choiceGains" "[[I", Cond.methodLink RX3 55 yX1_countWithout, Cond.instanceMethod yX1_countWithout, Cond.selects RX1 yX1_countWithout yX1_countWithout, Cond.code yX1_countWithout cX1_countWithout 4 (some .int), Cond.fieldLink RX1 15 "DearVotes$House" "present" "[Z", Cond.fieldLink RX1 21 "DearVotes$House" "voices" "[[I", Cond.methodLink RX1 34 yX1_countOf, Cond.instanceMethod yX1_countOf, Cond.selects RX1 yX1_countOf yX1_countOf, Cond.code yX1_countOf cX1_countOf 4 (some .int), Cond.methodLink RX3 62 yX3_listChoices, Cond.instanceMethod yX3_listChoices, Cond.selects RX3 yX3_listChoices yX3_listChoices, Cond.code yX3_listChoices cX3_listChoices 6 none, Cond.fieldLink RX3 9 "DearVotes$Search" "choices" "[I", Cond.methodLink RX3 79 yX1_gainBy, Cond.static yX1_gainBy, Cond.code yX1_gainBy cX1_gainBy 2 (some .int), Cond.methodLink RX3 82 yX3_addChoice, Cond.instanceMethod yX3_addChoice, Cond.selects RX3 yX3_addChoice yX3_addChoice, Cond.code yX3_addChoice cX3_addChoice 5 none, Cond.fieldLink RX3 17 "DearVotes$Search" "choiceVoices" "[[I"]
def wsX4_best_r3 : List Cond := [Cond.methodLink RX3 66 yX3_tryFrom, Cond.static yX3_tryFrom, Cond.code yX3_tryFrom cX3_tryFrom 7 none, Cond.fieldLink RX3 26 "DearVotes$Search" "tried" "[I", Cond.methodLink RX3 85 yX3_keepIfBetter, Cond.instanceMethod yX3_keepIfBetter, Cond.selects RX3 yX3_keepIfBetter yX3_keepIfBetter, Cond.code yX3_keepIfBetter cX3_keepIfBetter 3 none, Cond.fieldLink RX3 29 "DearVotes$Search" "found" "[I", Cond.methodLink RX3 73 arraycopyName, Cond.native arraycopyName, Cond.static arraycopyName, Cond.initialized "java/lang/System", Cond.methodLink RX3 89 yX3_triedIsLess, Cond.instanceMethod yX3_triedIsLess, Cond.selects RX3 yX3_triedIsLess yX3_triedIsLess, Cond.code yX3_triedIsLess cX3_triedIsLess 2 (some .boolean)]
def wsX4_best : List Cond := .code yX4_best cX4_best 2 (some .int) :: ((wsX4_best_r1 ++ (wsX4_best_r2 ++ wsX4_best_r3)) ++ wsX40 ++ wsX30 ++ wsX10)
def wsX4_answer_r1 : List Cond := [Cond.fieldLink RX4 10 "DearVotes" "house" "LDearVotes$House;", Cond.fieldLink RX4 21 "DearVotes" "search" "LDearVotes$Search;", Cond.fieldLink RX4 108 "DearVotes$Search" "found" "[I", Cond.methodLink RX4 62 yX1_hasPerson, Cond.instanceMethod yX1_hasPerson, Cond.selects RX1 yX1_hasPerson yX1_hasPerson, Cond.initialized RX1, Cond.code yX1_hasPerson cX1_hasPerson 2 (some .boolean), Cond.fieldLink RX1 27 "DearVotes$House" "people" "I", Cond.methodLink RX4 66 yX1_hasQuestion, Cond.instanceMethod yX1_hasQuestion, Cond.selects RX1 yX1_hasQuestion yX1_hasQuestion, Cond.code yX1_hasQuestion cX1_hasQuestion 2 (some .boolean), Cond.fieldLink RX1 31 "DearVotes$House" "questions" "I", Cond.methodLink RX4 101 yX3_findFor, Cond.instanceMethod yX3_findFor, Cond.selects RX3 yX3_findFor yX3_findFor, Cond.initialized RX3, Cond.code yX3_findFor cX3_findFor 3 none, Cond.fieldLink RX3 32 "DearVotes$Search" "house" "LDearVotes$House;", Cond.fieldLink RX3 36 "DearVotes$House" "budgets" "[I", Cond.fieldLink RX3 41 "DearVotes$Search" "budget" "I", Cond.constant RX3 45 (-1000000), Cond.fieldLink RX3 46 "DearVotes$Search" "foundGain" "I"]
def wsX4_answer_r2 : List Cond := [Cond.fieldLink RX3 49 "DearVotes$Search" "foundCost" "I", Cond.fieldLink RX3 23 "DearVotes$Search" "gainAhead" "[I", Cond.fieldLink RX3 52 "DearVotes$House" "questions" "I", Cond.fieldLink RX3 59 "DearVotes$House" "worths" "[[I", Cond.fieldLink RX3 20 "DearVotes$Search" "choiceGains" "[[I", Cond.methodLink RX3 55 yX1_countWithout, Cond.instanceMethod yX1_countWithout, Cond.selects RX1 yX1_countWithout yX1_countWithout, Cond.code yX1_countWithout cX1_countWithout 4 (some .int), Cond.fieldLink RX1 15 "DearVotes$House" "present" "[Z", Cond.fieldLink RX1 21 "DearVotes$House" "voices" "[[I", Cond.methodLink RX1 34 yX1_countOf, Cond.instanceMethod yX1_countOf, Cond.selects RX1 yX1_countOf yX1_countOf, Cond.code yX1_countOf cX1_countOf 4 (some .int), Cond.methodLink RX3 62 yX3_listChoices, Cond.instanceMethod yX3_listChoices, Cond.selects RX3 yX3_listChoices yX3_listChoices, Cond.code yX3_listChoices cX3_listChoices 6 none, Cond.fieldLink RX3 9 "DearVotes$Search" "choices" "[I", Cond.methodLink RX3 79 yX1_gainBy, Cond.static yX1_gainBy, Cond.code yX1_gainBy cX1_gainBy 2 (some .int), Cond.methodLink RX3 82 yX3_addChoice]
def wsX4_answer_r3 : List Cond := [Cond.instanceMethod yX3_addChoice, Cond.selects RX3 yX3_addChoice yX3_addChoice, Cond.code yX3_addChoice cX3_addChoice 5 none, Cond.fieldLink RX3 17 "DearVotes$Search" "choiceVoices" "[[I", Cond.methodLink RX3 66 yX3_tryFrom, Cond.static yX3_tryFrom, Cond.code yX3_tryFrom cX3_tryFrom 7 none, Cond.fieldLink RX3 26 "DearVotes$Search" "tried" "[I", Cond.methodLink RX3 85 yX3_keepIfBetter, Cond.instanceMethod yX3_keepIfBetter, Cond.selects RX3 yX3_keepIfBetter yX3_keepIfBetter, Cond.code yX3_keepIfBetter cX3_keepIfBetter 3 none, Cond.fieldLink RX3 29 "DearVotes$Search" "found" "[I", Cond.methodLink RX3 73 arraycopyName, Cond.native arraycopyName, Cond.static arraycopyName, Cond.initialized "java/lang/System", Cond.methodLink RX3 89 yX3_triedIsLess, Cond.instanceMethod yX3_triedIsLess, Cond.selects RX3 yX3_triedIsLess yX3_triedIsLess, Cond.code yX3_triedIsLess cX3_triedIsLess 2 (some .boolean)]
def wsX4_answer : List Cond := .code yX4_answer cX4_answer 3 (some .int) :: ((wsX4_answer_r1 ++ (wsX4_answer_r2 ++ wsX4_answer_r3)) ++ wsX40 ++ wsX30 ++ wsX10)
def wsX4_take_r1 : List Cond := [Cond.fieldLink RX4 10 "DearVotes" "house" "LDearVotes$House;", Cond.fieldLink RX4 83 "DearVotes$House" "present" "[Z", Cond.fieldLink RX4 21 "DearVotes" "search" "LDearVotes$Search;", Cond.methodLink RX4 62 yX1_hasPerson, Cond.instanceMethod yX1_hasPerson, Cond.selects RX1 yX1_hasPerson yX1_hasPerson, Cond.initialized RX1, Cond.code yX1_hasPerson cX1_hasPerson 2 (some .boolean), Cond.fieldLink RX1 27 "DearVotes$House" "people" "I", Cond.methodLink RX4 101 yX3_findFor, Cond.instanceMethod yX3_findFor, Cond.selects RX3 yX3_findFor yX3_findFor, Cond.initialized RX3, Cond.code yX3_findFor cX3_findFor 3 none, Cond.fieldLink RX3 32 "DearVotes$Search" "house" "LDearVotes$House;", Cond.fieldLink RX3 36 "DearVotes$House" "budgets" "[I", Cond.fieldLink RX3 41 "DearVotes$Search" "budget" "I", Cond.constant RX3 45 (-1000000), Cond.fieldLink RX3 46 "DearVotes$Search" "foundGain" "I", Cond.fieldLink RX3 49 "DearVotes$Search" "foundCost" "I", Cond.fieldLink RX3 23 "DearVotes$Search" "gainAhead" "[I", Cond.fieldLink RX3 52 "DearVotes$House" "questions" "I", Cond.fieldLink RX3 59 "DearVotes$House" "worths" "[[I", Cond.fieldLink RX3 20 "DearVotes$Search" "choiceGains" "[[I"]
def wsX4_take_r2 : List Cond := [Cond.methodLink RX3 55 yX1_countWithout, Cond.instanceMethod yX1_countWithout, Cond.selects RX1 yX1_countWithout yX1_countWithout, Cond.code yX1_countWithout cX1_countWithout 4 (some .int), Cond.fieldLink RX1 15 "DearVotes$House" "present" "[Z", Cond.fieldLink RX1 21 "DearVotes$House" "voices" "[[I", Cond.methodLink RX1 34 yX1_countOf, Cond.instanceMethod yX1_countOf, Cond.selects RX1 yX1_countOf yX1_countOf, Cond.code yX1_countOf cX1_countOf 4 (some .int), Cond.methodLink RX3 62 yX3_listChoices, Cond.instanceMethod yX3_listChoices, Cond.selects RX3 yX3_listChoices yX3_listChoices, Cond.code yX3_listChoices cX3_listChoices 6 none, Cond.fieldLink RX3 9 "DearVotes$Search" "choices" "[I", Cond.methodLink RX3 79 yX1_gainBy, Cond.static yX1_gainBy, Cond.code yX1_gainBy cX1_gainBy 2 (some .int), Cond.methodLink RX3 82 yX3_addChoice, Cond.instanceMethod yX3_addChoice, Cond.selects RX3 yX3_addChoice yX3_addChoice, Cond.code yX3_addChoice cX3_addChoice 5 none, Cond.fieldLink RX3 17 "DearVotes$Search" "choiceVoices" "[[I", Cond.methodLink RX3 66 yX3_tryFrom]
def wsX4_take_r3 : List Cond := [Cond.static yX3_tryFrom, Cond.code yX3_tryFrom cX3_tryFrom 7 none, Cond.fieldLink RX3 26 "DearVotes$Search" "tried" "[I", Cond.methodLink RX3 85 yX3_keepIfBetter, Cond.instanceMethod yX3_keepIfBetter, Cond.selects RX3 yX3_keepIfBetter yX3_keepIfBetter, Cond.code yX3_keepIfBetter cX3_keepIfBetter 3 none, Cond.fieldLink RX3 29 "DearVotes$Search" "found" "[I", Cond.methodLink RX3 73 arraycopyName, Cond.native arraycopyName, Cond.static arraycopyName, Cond.initialized "java/lang/System", Cond.methodLink RX3 89 yX3_triedIsLess, Cond.instanceMethod yX3_triedIsLess, Cond.selects RX3 yX3_triedIsLess yX3_triedIsLess, Cond.code yX3_triedIsLess cX3_triedIsLess 2 (some .boolean), Cond.methodLink RX4 111 yX3_giveTo, Cond.instanceMethod yX3_giveTo, Cond.selects RX3 yX3_giveTo yX3_giveTo, Cond.code yX3_giveTo cX3_giveTo 2 none, Cond.fieldLink RX3 70 "DearVotes$House" "voices" "[[I", Cond.methodLink RX4 73 yX1_costOf, Cond.instanceMethod yX1_costOf, Cond.selects RX1 yX1_costOf yX1_costOf]
def wsX4_take_r4 : List Cond := [Cond.code yX1_costOf cX1_costOf 4 (some .int), Cond.fieldLink RX1 31 "DearVotes$House" "questions" "I"]
def wsX4_take : List Cond := .code yX4_take cX4_take 2 (some .int) :: ((wsX4_take_r1 ++ (wsX4_take_r2 ++ (wsX4_take_r3 ++ wsX4_take_r4))) ++ wsX40 ++ wsX10 ++ wsX30)
def wsX4_play_r1 : List Cond := [Cond.fieldLink RX4 30 "DearVotes" "rounds" "LDearVotes$Rounds;", Cond.methodLink RX4 41 yX4_isWithin, Cond.static yX4_isWithin, Cond.initialized RX4, Cond.code yX4_isWithin cX4_isWithin 3 (some .boolean), Cond.methodLink RX4 114 yX2_playAtMost, Cond.instanceMethod yX2_playAtMost, Cond.selects RX2 yX2_playAtMost yX2_playAtMost, Cond.initialized RX2, Cond.code yX2_playAtMost cX2_playAtMost 4 (some .int), Cond.fieldLink RX2 16 "DearVotes$Rounds" "ending" "I", Cond.fieldLink RX2 28 "DearVotes$Rounds" "ringLength" "I", Cond.fieldLink RX2 39 "DearVotes$Rounds" "doneEver" "I", Cond.fieldLink RX2 42 "DearVotes$Rounds" "changesEver" "I", Cond.methodLink RX2 31 yX2_noteVoices, Cond.instanceMethod yX2_noteVoices, Cond.selects RX2 yX2_noteVoices yX2_noteVoices, Cond.code yX2_noteVoices cX2_noteVoices 3 none, Cond.fieldLink RX2 20 "DearVotes$Rounds" "house" "LDearVotes$House;", Cond.fieldLink RX2 49 "DearVotes$House" "people" "I", Cond.fieldLink RX2 11 "DearVotes$Rounds" "trail" "[[J", Cond.methodLink RX2 73 yX1_voicesInOne, Cond.instanceMethod yX1_voicesInOne, Cond.selects RX1 yX1_voicesInOne yX1_voicesInOne]
def wsX4_play_r2 : List Cond := [Cond.initialized RX1, Cond.code yX1_voicesInOne cX1_voicesInOne 5 (some .long), Cond.fieldLink RX1 31 "DearVotes$House" "questions" "I", Cond.constantLong RX1 64 (81), Cond.fieldLink RX1 21 "DearVotes$House" "voices" "[[I", Cond.constantLong RX1 66 (40), Cond.methodLink RX2 35 yX2_doRound, Cond.instanceMethod yX2_doRound, Cond.selects RX2 yX2_doRound yX2_doRound, Cond.code yX2_doRound cX2_doRound 3 (some .int), Cond.fieldLink RX2 54 "DearVotes$House" "present" "[Z", Cond.fieldLink RX2 24 "DearVotes$Rounds" "search" "LDearVotes$Search;", Cond.fieldLink RX2 63 "DearVotes$Search" "foundGain" "I", Cond.methodLink RX2 58 yX3_findFor, Cond.instanceMethod yX3_findFor, Cond.selects RX3 yX3_findFor yX3_findFor, Cond.initialized RX3, Cond.code yX3_findFor cX3_findFor 3 none, Cond.fieldLink RX3 32 "DearVotes$Search" "house" "LDearVotes$House;", Cond.fieldLink RX3 36 "DearVotes$House" "budgets" "[I", Cond.fieldLink RX3 41 "DearVotes$Search" "budget" "I", Cond.constant RX3 45 (-1000000), Cond.fieldLink RX3 46 "DearVotes$Search" "foundGain" "I", Cond.fieldLink RX3 49 "DearVotes$Search" "foundCost" "I"]
def wsX4_play_r3 : List Cond := [Cond.fieldLink RX3 23 "DearVotes$Search" "gainAhead" "[I", Cond.fieldLink RX3 52 "DearVotes$House" "questions" "I", Cond.fieldLink RX3 59 "DearVotes$House" "worths" "[[I", Cond.fieldLink RX3 20 "DearVotes$Search" "choiceGains" "[[I", Cond.methodLink RX3 55 yX1_countWithout, Cond.instanceMethod yX1_countWithout, Cond.selects RX1 yX1_countWithout yX1_countWithout, Cond.code yX1_countWithout cX1_countWithout 4 (some .int), Cond.fieldLink RX1 15 "DearVotes$House" "present" "[Z", Cond.methodLink RX1 34 yX1_countOf, Cond.instanceMethod yX1_countOf, Cond.selects RX1 yX1_countOf yX1_countOf, Cond.code yX1_countOf cX1_countOf 4 (some .int), Cond.fieldLink RX1 27 "DearVotes$House" "people" "I", Cond.methodLink RX3 62 yX3_listChoices, Cond.instanceMethod yX3_listChoices, Cond.selects RX3 yX3_listChoices yX3_listChoices, Cond.code yX3_listChoices cX3_listChoices 6 none, Cond.fieldLink RX3 9 "DearVotes$Search" "choices" "[I", Cond.methodLink RX3 79 yX1_gainBy, Cond.static yX1_gainBy, Cond.code yX1_gainBy cX1_gainBy 2 (some .int), Cond.methodLink RX3 82 yX3_addChoice, Cond.instanceMethod yX3_addChoice]
def wsX4_play_r4 : List Cond := [Cond.selects RX3 yX3_addChoice yX3_addChoice, Cond.code yX3_addChoice cX3_addChoice 5 none, Cond.fieldLink RX3 17 "DearVotes$Search" "choiceVoices" "[[I", Cond.methodLink RX3 66 yX3_tryFrom, Cond.static yX3_tryFrom, Cond.code yX3_tryFrom cX3_tryFrom 7 none, Cond.fieldLink RX3 26 "DearVotes$Search" "tried" "[I", Cond.methodLink RX3 85 yX3_keepIfBetter, Cond.instanceMethod yX3_keepIfBetter, Cond.selects RX3 yX3_keepIfBetter yX3_keepIfBetter, Cond.code yX3_keepIfBetter cX3_keepIfBetter 3 none, Cond.fieldLink RX3 29 "DearVotes$Search" "found" "[I", Cond.methodLink RX3 73 arraycopyName, Cond.native arraycopyName, Cond.static arraycopyName, Cond.initialized "java/lang/System", Cond.methodLink RX3 89 yX3_triedIsLess, Cond.instanceMethod yX3_triedIsLess, Cond.selects RX3 yX3_triedIsLess yX3_triedIsLess, Cond.code yX3_triedIsLess cX3_triedIsLess 2 (some .boolean), Cond.methodLink RX2 66 yX1_gainOf, Cond.instanceMethod yX1_gainOf, Cond.selects RX1 yX1_gainOf yX1_gainOf, Cond.code yX1_gainOf cX1_gainOf 4 (some .int)]
def wsX4_play_r5 : List Cond := [Cond.fieldLink RX1 24 "DearVotes$House" "worths" "[[I", Cond.methodLink RX1 43 yX1_gainBy, Cond.methodLink RX2 70 yX3_giveTo, Cond.instanceMethod yX3_giveTo, Cond.selects RX3 yX3_giveTo yX3_giveTo, Cond.code yX3_giveTo cX3_giveTo 2 none, Cond.fieldLink RX3 70 "DearVotes$House" "voices" "[[I", Cond.methodLink RX2 45 yX2_judge, Cond.instanceMethod yX2_judge, Cond.selects RX2 yX2_judge yX2_judge, Cond.code yX2_judge cX2_judge 4 none, Cond.methodLink RX2 77 yX2_isSameTrail, Cond.instanceMethod yX2_isSameTrail, Cond.selects RX2 yX2_isSameTrail yX2_isSameTrail, Cond.code yX2_isSameTrail cX2_isSameTrail 4 (some .boolean)]
def wsX4_play : List Cond := .code yX4_play cX4_play 2 (some .int) :: ((wsX4_play_r1 ++ (wsX4_play_r2 ++ (wsX4_play_r3 ++ (wsX4_play_r4 ++ wsX4_play_r5)))) ++ wsX40 ++ wsX20 ++ wsX10 ++ wsX30)
def wsX4_ended : List Cond := .code yX4_ended cX4_ended 1 (some .int) :: ([.fieldLink RX4 30 "DearVotes" "rounds" "LDearVotes$Rounds;", .fieldLink RX4 117 "DearVotes$Rounds" "ending" "I"] ++ wsX40 ++ wsX20)
def wsX4_ring : List Cond := .code yX4_ring cX4_ring 1 (some .int) :: ([.fieldLink RX4 30 "DearVotes" "rounds" "LDearVotes$Rounds;", .fieldLink RX4 120 "DearVotes$Rounds" "ringLength" "I"] ++ wsX40 ++ wsX20)
def wsX4_gift : List Cond := .code yX4_gift cX4_gift 5 (some .int) :: ([.fieldLink RX4 10 "DearVotes" "house" "LDearVotes$House;", .fieldLink RX4 37 "DearVotes" "fund" "LDearVotes$Fund;", .constant RX4 126 (1000000), .fieldLink RX4 127 "DearVotes$Fund" "gifts" "[[I", .methodLink RX4 62 yX1_hasPerson, .instanceMethod yX1_hasPerson, .selects RX1 yX1_hasPerson yX1_hasPerson, .initialized RX1, .code yX1_hasPerson cX1_hasPerson 2 (some .boolean), .fieldLink RX1 27 "DearVotes$House" "people" "I", .methodLink RX4 123 yX0_hasProject, .instanceMethod yX0_hasProject, .selects RX0 yX0_hasProject yX0_hasProject, .initialized RX0, .code yX0_hasProject cX0_hasProject 2 (some .boolean), .fieldLink RX0 27 "DearVotes$Fund" "projects" "I", .methodLink RX4 41 yX4_isWithin, .static yX4_isWithin, .initialized RX4, .code yX4_isWithin cX4_isWithin 3 (some .boolean)] ++ wsX40 ++ wsX00 ++ wsX10)
def wsX4_bond : List Cond := .code yX4_bond cX4_bond 5 (some .int) :: ([.fieldLink RX4 10 "DearVotes" "house" "LDearVotes$House;", .fieldLink RX4 37 "DearVotes" "fund" "LDearVotes$Fund;", .fieldLink RX4 130 "DearVotes$Fund" "bonds" "[[I", .methodLink RX4 62 yX1_hasPerson, .instanceMethod yX1_hasPerson, .selects RX1 yX1_hasPerson yX1_hasPerson, .initialized RX1, .code yX1_hasPerson cX1_hasPerson 2 (some .boolean), .fieldLink RX1 27 "DearVotes$House" "people" "I", .methodLink RX4 41 yX4_isWithin, .static yX4_isWithin, .initialized RX4, .code yX4_isWithin cX4_isWithin 3 (some .boolean)] ++ wsX40 ++ wsX00 ++ wsX10)
def wsX4_matched_r1 : List Cond := [Cond.fieldLink RX4 37 "DearVotes" "fund" "LDearVotes$Fund;", Cond.constantLong RX4 133 (-101), Cond.constantLong RX4 135 (-102), Cond.methodLink RX4 123 yX0_hasProject, Cond.instanceMethod yX0_hasProject, Cond.selects RX0 yX0_hasProject yX0_hasProject, Cond.initialized RX0, Cond.code yX0_hasProject cX0_hasProject 2 (some .boolean), Cond.fieldLink RX0 27 "DearVotes$Fund" "projects" "I", Cond.methodLink RX4 41 yX4_isWithin, Cond.static yX4_isWithin, Cond.initialized RX4, Cond.code yX4_isWithin cX4_isWithin 3 (some .boolean), Cond.methodLink RX4 137 yX0_matchedLow, Cond.instanceMethod yX0_matchedLow, Cond.selects RX0 yX0_matchedLow yX0_matchedLow, Cond.code yX0_matchedLow cX0_matchedLow 6 (some .long), Cond.fieldLink RX0 23 "DearVotes$Fund" "house" "LDearVotes$House;", Cond.fieldLink RX0 31 "DearVotes$House" "people" "I", Cond.fieldLink RX0 16 "DearVotes$Fund" "bonds" "[[I", Cond.constantLong RX0 44 (2), Cond.constantLong RX0 46 (256000), Cond.methodLink RX0 36 yX0_fineProduct, Cond.instanceMethod yX0_fineProduct]
def wsX4_matched_r2 : List Cond := [Cond.selects RX0 yX0_fineProduct yX0_fineProduct, Cond.code yX0_fineProduct cX0_fineProduct 4 (some .long), Cond.constantLong RX0 53 (65536), Cond.fieldLink RX0 11 "DearVotes$Fund" "gifts" "[[I", Cond.methodLink RX0 40 yX0_root, Cond.static yX0_root, Cond.code yX0_root cX0_root 6 (some .long), Cond.constantLong RX0 55 (268435456), Cond.methodLink RX4 141 yX0_matchedHigh, Cond.instanceMethod yX0_matchedHigh, Cond.selects RX0 yX0_matchedHigh yX0_matchedHigh, Cond.code yX0_matchedHigh cX0_matchedHigh 6 (some .long), Cond.methodLink RX0 50 yX0_rootAbove, Cond.static yX0_rootAbove, Cond.code yX0_rootAbove cX0_rootAbove 4 (some .long)]
def wsX4_matched : List Cond := .code yX4_matched cX4_matched 3 (some .long) :: ((wsX4_matched_r1 ++ wsX4_matched_r2) ++ wsX40 ++ wsX00 ++ wsX10)
def wsX4_share_r1 : List Cond := [Cond.fieldLink RX4 37 "DearVotes" "fund" "LDearVotes$Fund;", Cond.constantLong RX4 133 (-101), Cond.constantLong RX4 144 (1000000000), Cond.constantLong RX4 135 (-102), Cond.methodLink RX4 123 yX0_hasProject, Cond.instanceMethod yX0_hasProject, Cond.selects RX0 yX0_hasProject yX0_hasProject, Cond.initialized RX0, Cond.code yX0_hasProject cX0_hasProject 2 (some .boolean), Cond.fieldLink RX0 27 "DearVotes$Fund" "projects" "I", Cond.methodLink RX4 146 yX0_shareOf, Cond.instanceMethod yX0_shareOf, Cond.selects RX0 yX0_shareOf yX0_shareOf, Cond.code yX0_shareOf cX0_shareOf 14 (some .long), Cond.fieldLink RX0 19 "DearVotes$Fund" "lows" "[J", Cond.methodLink RX0 57 yX0_matchedLow, Cond.instanceMethod yX0_matchedLow, Cond.selects RX0 yX0_matchedLow yX0_matchedLow, Cond.code yX0_matchedLow cX0_matchedLow 6 (some .long), Cond.fieldLink RX0 23 "DearVotes$Fund" "house" "LDearVotes$House;", Cond.fieldLink RX0 31 "DearVotes$House" "people" "I", Cond.fieldLink RX0 16 "DearVotes$Fund" "bonds" "[[I", Cond.constantLong RX0 44 (2), Cond.constantLong RX0 46 (256000)]
def wsX4_share_r2 : List Cond := [Cond.methodLink RX0 36 yX0_fineProduct, Cond.instanceMethod yX0_fineProduct, Cond.selects RX0 yX0_fineProduct yX0_fineProduct, Cond.code yX0_fineProduct cX0_fineProduct 4 (some .long), Cond.constantLong RX0 53 (65536), Cond.fieldLink RX0 11 "DearVotes$Fund" "gifts" "[[I", Cond.methodLink RX0 40 yX0_root, Cond.static yX0_root, Cond.code yX0_root cX0_root 6 (some .long), Cond.constantLong RX0 55 (268435456)]
def wsX4_share : List Cond := .code yX4_share cX4_share 4 (some .long) :: ((wsX4_share_r1 ++ wsX4_share_r2) ++ wsX40 ++ wsX00 ++ wsX10)
def wsX4_damped_r1 : List Cond := [Cond.fieldLink RX4 37 "DearVotes" "fund" "LDearVotes$Fund;", Cond.constantLong RX4 133 (-101), Cond.methodLink RX4 123 yX0_hasProject, Cond.instanceMethod yX0_hasProject, Cond.selects RX0 yX0_hasProject yX0_hasProject, Cond.initialized RX0, Cond.code yX0_hasProject cX0_hasProject 2 (some .boolean), Cond.fieldLink RX0 27 "DearVotes$Fund" "projects" "I", Cond.methodLink RX4 150 yX0_matchedUndamped, Cond.instanceMethod yX0_matchedUndamped, Cond.selects RX0 yX0_matchedUndamped yX0_matchedUndamped, Cond.code yX0_matchedUndamped cX0_matchedUndamped 6 (some .long), Cond.fieldLink RX0 23 "DearVotes$Fund" "house" "LDearVotes$House;", Cond.fieldLink RX0 31 "DearVotes$House" "people" "I", Cond.constantLong RX0 48 (1000), Cond.constantLong RX0 44 (2), Cond.constantLong RX0 46 (256000), Cond.methodLink RX0 36 yX0_fineProduct, Cond.instanceMethod yX0_fineProduct, Cond.selects RX0 yX0_fineProduct yX0_fineProduct, Cond.code yX0_fineProduct cX0_fineProduct 4 (some .long), Cond.constantLong RX0 53 (65536), Cond.fieldLink RX0 11 "DearVotes$Fund" "gifts" "[[I", Cond.methodLink RX0 40 yX0_root]
def wsX4_damped_r2 : List Cond := [Cond.static yX0_root, Cond.code yX0_root cX0_root 6 (some .long), Cond.constantLong RX0 55 (268435456), Cond.methodLink RX4 137 yX0_matchedLow, Cond.instanceMethod yX0_matchedLow, Cond.selects RX0 yX0_matchedLow yX0_matchedLow, Cond.code yX0_matchedLow cX0_matchedLow 6 (some .long), Cond.fieldLink RX0 16 "DearVotes$Fund" "bonds" "[[I"]
def wsX4_damped : List Cond := .code yX4_damped cX4_damped 2 (some .long) :: ((wsX4_damped_r1 ++ wsX4_damped_r2) ++ wsX40 ++ wsX00 ++ wsX10)
def wsX4_likeness : List Cond := .code yX4_likeness cX4_likeness 3 (some .int) :: ([.fieldLink RX4 10 "DearVotes" "house" "LDearVotes$House;", .methodLink RX4 62 yX1_hasPerson, .instanceMethod yX1_hasPerson, .selects RX1 yX1_hasPerson yX1_hasPerson, .initialized RX1, .code yX1_hasPerson cX1_hasPerson 2 (some .boolean), .fieldLink RX1 27 "DearVotes$House" "people" "I", .methodLink RX4 153 yX1_likenessOf, .instanceMethod yX1_likenessOf, .selects RX1 yX1_likenessOf yX1_likenessOf, .code yX1_likenessOf cX1_likenessOf 8 (some .int), .fieldLink RX1 31 "DearVotes$House" "questions" "I", .fieldLink RX1 21 "DearVotes$House" "voices" "[[I", .constantLong RX1 56 (1000), .methodLink RX1 53 yX1_costOf, .instanceMethod yX1_costOf, .selects RX1 yX1_costOf yX1_costOf, .code yX1_costOf cX1_costOf 4 (some .int)] ++ wsX40 ++ wsX10)
def wsX4_group_r1 : List Cond := [Cond.fieldLink RX4 10 "DearVotes" "house" "LDearVotes$House;", Cond.methodLink RX4 62 yX1_hasPerson, Cond.instanceMethod yX1_hasPerson, Cond.selects RX1 yX1_hasPerson yX1_hasPerson, Cond.initialized RX1, Cond.code yX1_hasPerson cX1_hasPerson 2 (some .boolean), Cond.fieldLink RX1 27 "DearVotes$House" "people" "I", Cond.methodLink RX4 41 yX4_isWithin, Cond.static yX4_isWithin, Cond.initialized RX4, Cond.code yX4_isWithin cX4_isWithin 3 (some .boolean), Cond.methodLink RX4 156 yX1_groupOf, Cond.instanceMethod yX1_groupOf, Cond.selects RX1 yX1_groupOf yX1_groupOf, Cond.code yX1_groupOf cX1_groupOf 7 (some .int), Cond.methodLink RX1 58 yX1_alikeTo, Cond.instanceMethod yX1_alikeTo, Cond.selects RX1 yX1_alikeTo yX1_alikeTo, Cond.code yX1_alikeTo cX1_alikeTo 5 (some .int), Cond.methodLink RX1 61 yX1_likenessOf, Cond.instanceMethod yX1_likenessOf, Cond.selects RX1 yX1_likenessOf yX1_likenessOf, Cond.code yX1_likenessOf cX1_likenessOf 8 (some .int), Cond.fieldLink RX1 31 "DearVotes$House" "questions" "I"]
def wsX4_group_r2 : List Cond := [Cond.fieldLink RX1 21 "DearVotes$House" "voices" "[[I", Cond.constantLong RX1 56 (1000), Cond.methodLink RX1 53 yX1_costOf, Cond.instanceMethod yX1_costOf, Cond.selects RX1 yX1_costOf yX1_costOf, Cond.code yX1_costOf cX1_costOf 4 (some .int)]
def wsX4_group : List Cond := .code yX4_group cX4_group 3 (some .int) :: ((wsX4_group_r1 ++ wsX4_group_r2) ++ wsX40 ++ wsX10)
def wsX4_count : List Cond := .code yX4_count cX4_count 2 (some .int) :: ([.fieldLink RX4 10 "DearVotes" "house" "LDearVotes$House;", .fieldLink RX4 45 "DearVotes$House" "people" "I", .fieldLink RX4 53 "DearVotes$House" "questions" "I", .fieldLink RX4 37 "DearVotes" "fund" "LDearVotes$Fund;", .fieldLink RX4 56 "DearVotes$Fund" "projects" "I", .fieldLink RX4 30 "DearVotes" "rounds" "LDearVotes$Rounds;", .fieldLink RX4 163 "DearVotes$Rounds" "doneEver" "I", .fieldLink RX4 166 "DearVotes$Rounds" "changesEver" "I", .methodLink RX4 159 yX1_peoplePresent, .instanceMethod yX1_peoplePresent, .selects RX1 yX1_peoplePresent yX1_peoplePresent, .initialized RX1, .code yX1_peoplePresent cX1_peoplePresent 3 (some .int), .fieldLink RX1 27 "DearVotes$House" "people" "I", .fieldLink RX1 15 "DearVotes$House" "present" "[Z"] ++ wsX40 ++ wsX10 ++ wsX00 ++ wsX20)
def wsX4_digest_r1 : List Cond := [Cond.constantLong RX4 169 (103), Cond.fieldLink RX4 10 "DearVotes" "house" "LDearVotes$House;", Cond.fieldLink RX4 45 "DearVotes$House" "people" "I", Cond.fieldLink RX4 37 "DearVotes" "fund" "LDearVotes$Fund;", Cond.constantLong RX4 176 (31), Cond.fieldLink RX4 59 "DearVotes$House" "seed" "I", Cond.fieldLink RX4 30 "DearVotes" "rounds" "LDearVotes$Rounds;", Cond.fieldLink RX4 163 "DearVotes$Rounds" "doneEver" "I", Cond.fieldLink RX4 166 "DearVotes$Rounds" "changesEver" "I", Cond.methodLink RX4 171 yX1_digestPerson, Cond.instanceMethod yX1_digestPerson, Cond.selects RX1 yX1_digestPerson yX1_digestPerson, Cond.initialized RX1, Cond.code yX1_digestPerson cX1_digestPerson 7 (some .long), Cond.constantLong RX1 68 (31), Cond.fieldLink RX1 9 "DearVotes$House" "budgets" "[I", Cond.fieldLink RX1 15 "DearVotes$House" "present" "[Z", Cond.fieldLink RX1 31 "DearVotes$House" "questions" "I", Cond.fieldLink RX1 21 "DearVotes$House" "voices" "[[I", Cond.fieldLink RX1 24 "DearVotes$House" "worths" "[[I", Cond.methodLink RX4 175 yX0_digestPerson, Cond.instanceMethod yX0_digestPerson, Cond.selects RX0 yX0_digestPerson yX0_digestPerson, Cond.initialized RX0]
def wsX4_digest_r2 : List Cond := [Cond.code yX0_digestPerson cX0_digestPerson 7 (some .long), Cond.fieldLink RX0 27 "DearVotes$Fund" "projects" "I", Cond.constantLong RX0 61 (31), Cond.fieldLink RX0 11 "DearVotes$Fund" "gifts" "[[I", Cond.fieldLink RX0 16 "DearVotes$Fund" "bonds" "[[I"]
def wsX4_digest : List Cond := .code yX4_digest cX4_digest 4 (some .long) :: ((wsX4_digest_r1 ++ wsX4_digest_r2) ++ wsX40 ++ wsX10 ++ wsX20 ++ wsX00)
def wsX5_init : List Cond := .code yX5_init cX5_init 2 none :: ([.methodLink RX5 1 objectInit, .instanceMethod objectInit, .code objectInit ⟨#[0xb1]⟩ 1 none, .arrayClass .int, .fieldLink RX5 7 "DearVotesModel" "budgets" "[I", .arrayClass .boolean, .fieldLink RX5 13 "DearVotesModel" "isHere" "[Z", .fieldLink RX5 17 "DearVotesModel" "votes" "[I", .fieldLink RX5 20 "DearVotesModel" "worths" "[I", .fieldLink RX5 23 "DearVotesModel" "gifts" "[I", .fieldLink RX5 26 "DearVotesModel" "bonds" "[I", .fieldLink RX5 29 "DearVotesModel" "cheapest" "[I", .fieldLink RX5 32 "DearVotesModel" "may" "[Z", .fieldLink RX5 35 "DearVotesModel" "bestVoices" "[I", .fieldLink RX5 38 "DearVotesModel" "tryVoices" "[I", .fieldLink RX5 41 "DearVotesModel" "past" "[I", .arrayClass .long, .fieldLink RX5 44 "DearVotesModel" "parts" "[J", .fieldLink RX5 48 "DearVotesModel" "rests" "[J"] ++ wsX50)
def wsX5_in : List Cond := .code yX5_in cX5_in 3 (some .boolean) :: ([])
def wsX5_isPerson : List Cond := .code yX5_isPerson cX5_isPerson 2 (some .boolean) :: ([.fieldLink RX5 51 "DearVotesModel" "people" "I", .methodLink RX5 55 yX5_in, .static yX5_in, .initialized RX5, .code yX5_in cX5_in 3 (some .boolean)] ++ wsX50)
def wsX5_isQuestion : List Cond := .code yX5_isQuestion cX5_isQuestion 2 (some .boolean) :: ([.fieldLink RX5 59 "DearVotesModel" "questions" "I", .methodLink RX5 55 yX5_in, .static yX5_in, .initialized RX5, .code yX5_in cX5_in 3 (some .boolean)] ++ wsX50)
def wsX5_isProject : List Cond := .code yX5_isProject cX5_isProject 2 (some .boolean) :: ([.fieldLink RX5 62 "DearVotesModel" "projects" "I", .methodLink RX5 55 yX5_in, .static yX5_in, .initialized RX5, .code yX5_in cX5_in 3 (some .boolean)] ++ wsX50)
def wsX5_person : List Cond := .code yX5_person cX5_person 2 (some .int) :: ([.fieldLink RX5 51 "DearVotesModel" "people" "I", .fieldLink RX5 7 "DearVotesModel" "budgets" "[I", .fieldLink RX5 13 "DearVotesModel" "isHere" "[Z", .methodLink RX5 55 yX5_in, .static yX5_in, .initialized RX5, .code yX5_in cX5_in 3 (some .boolean)] ++ wsX50)
def wsX5_question : List Cond := .code yX5_question cX5_question 1 (some .int) :: ([.fieldLink RX5 59 "DearVotesModel" "questions" "I"] ++ wsX50)
def wsX5_project : List Cond := .code yX5_project cX5_project 1 (some .int) :: ([.fieldLink RX5 62 "DearVotesModel" "projects" "I"] ++ wsX50)
def wsX5_seed : List Cond := .code yX5_seed cX5_seed 3 (some .int) :: ([.fieldLink RX5 65 "DearVotesModel" "seed" "I"] ++ wsX50)
def wsX5_costOf : List Cond := .code yX5_costOf cX5_costOf 4 (some .int) :: ([.fieldLink RX5 59 "DearVotesModel" "questions" "I", .fieldLink RX5 17 "DearVotesModel" "votes" "[I"] ++ wsX50)
def wsX5_vote : List Cond := .code yX5_vote cX5_vote 6 (some .int) :: ([.fieldLink RX5 17 "DearVotesModel" "votes" "[I", .fieldLink RX5 7 "DearVotesModel" "budgets" "[I", .methodLink RX5 68 yX5_isPerson, .instanceMethod yX5_isPerson, .selects RX5 yX5_isPerson yX5_isPerson, .initialized RX5, .code yX5_isPerson cX5_isPerson 2 (some .boolean), .fieldLink RX5 51 "DearVotesModel" "people" "I", .methodLink RX5 55 yX5_in, .static yX5_in, .code yX5_in cX5_in 3 (some .boolean), .methodLink RX5 72 yX5_isQuestion, .instanceMethod yX5_isQuestion, .selects RX5 yX5_isQuestion yX5_isQuestion, .code yX5_isQuestion cX5_isQuestion 2 (some .boolean), .fieldLink RX5 59 "DearVotesModel" "questions" "I", .methodLink RX5 75 yX5_costOf, .instanceMethod yX5_costOf, .selects RX5 yX5_costOf yX5_costOf, .code yX5_costOf cX5_costOf 4 (some .int)] ++ wsX50)
def wsX5_worth : List Cond := .code yX5_worth cX5_worth 5 (some .int) :: ([.fieldLink RX5 20 "DearVotesModel" "worths" "[I", .methodLink RX5 68 yX5_isPerson, .instanceMethod yX5_isPerson, .selects RX5 yX5_isPerson yX5_isPerson, .initialized RX5, .code yX5_isPerson cX5_isPerson 2 (some .boolean), .fieldLink RX5 51 "DearVotesModel" "people" "I", .methodLink RX5 55 yX5_in, .static yX5_in, .code yX5_in cX5_in 3 (some .boolean), .methodLink RX5 72 yX5_isQuestion, .instanceMethod yX5_isQuestion, .selects RX5 yX5_isQuestion yX5_isQuestion, .code yX5_isQuestion cX5_isQuestion 2 (some .boolean), .fieldLink RX5 59 "DearVotesModel" "questions" "I"] ++ wsX50)
def wsX5_here : List Cond := .code yX5_here cX5_here 4 (some .int) :: ([.fieldLink RX5 13 "DearVotesModel" "isHere" "[Z", .methodLink RX5 68 yX5_isPerson, .instanceMethod yX5_isPerson, .selects RX5 yX5_isPerson yX5_isPerson, .initialized RX5, .code yX5_isPerson cX5_isPerson 2 (some .boolean), .fieldLink RX5 51 "DearVotesModel" "people" "I", .methodLink RX5 55 yX5_in, .static yX5_in, .code yX5_in cX5_in 3 (some .boolean)] ++ wsX50)
def wsX5_voices : List Cond := .code yX5_voices cX5_voices 3 (some .int) :: ([.fieldLink RX5 17 "DearVotesModel" "votes" "[I", .methodLink RX5 68 yX5_isPerson, .instanceMethod yX5_isPerson, .selects RX5 yX5_isPerson yX5_isPerson, .initialized RX5, .code yX5_isPerson cX5_isPerson 2 (some .boolean), .fieldLink RX5 51 "DearVotesModel" "people" "I", .methodLink RX5 55 yX5_in, .static yX5_in, .code yX5_in cX5_in 3 (some .boolean), .methodLink RX5 72 yX5_isQuestion, .instanceMethod yX5_isQuestion, .selects RX5 yX5_isQuestion yX5_isQuestion, .code yX5_isQuestion cX5_isQuestion 2 (some .boolean), .fieldLink RX5 59 "DearVotesModel" "questions" "I"] ++ wsX50)
def wsX5_cost : List Cond := .code yX5_cost cX5_cost 2 (some .int) :: ([.methodLink RX5 68 yX5_isPerson, .instanceMethod yX5_isPerson, .selects RX5 yX5_isPerson yX5_isPerson, .initialized RX5, .code yX5_isPerson cX5_isPerson 2 (some .boolean), .fieldLink RX5 51 "DearVotesModel" "people" "I", .methodLink RX5 55 yX5_in, .static yX5_in, .code yX5_in cX5_in 3 (some .boolean), .methodLink RX5 75 yX5_costOf, .instanceMethod yX5_costOf, .selects RX5 yX5_costOf yX5_costOf, .code yX5_costOf cX5_costOf 4 (some .int), .fieldLink RX5 59 "DearVotesModel" "questions" "I", .fieldLink RX5 17 "DearVotesModel" "votes" "[I"] ++ wsX50)
def wsX5_others : List Cond := .code yX5_others cX5_others 5 (some .int) :: ([.fieldLink RX5 51 "DearVotesModel" "people" "I", .fieldLink RX5 13 "DearVotesModel" "isHere" "[Z", .fieldLink RX5 17 "DearVotesModel" "votes" "[I"] ++ wsX50)
def wsX5_total : List Cond := .code yX5_total cX5_total 2 (some .int) :: ([.methodLink RX5 72 yX5_isQuestion, .instanceMethod yX5_isQuestion, .selects RX5 yX5_isQuestion yX5_isQuestion, .initialized RX5, .code yX5_isQuestion cX5_isQuestion 2 (some .boolean), .fieldLink RX5 59 "DearVotesModel" "questions" "I", .methodLink RX5 55 yX5_in, .static yX5_in, .code yX5_in cX5_in 3 (some .boolean), .methodLink RX5 79 yX5_others, .instanceMethod yX5_others, .selects RX5 yX5_others yX5_others, .code yX5_others cX5_others 5 (some .int), .fieldLink RX5 51 "DearVotesModel" "people" "I", .fieldLink RX5 13 "DearVotesModel" "isHere" "[Z", .fieldLink RX5 17 "DearVotesModel" "votes" "[I"] ++ wsX50)
def wsX5_resultOf : List Cond := .code yX5_resultOf cX5_resultOf 5 (some .int) :: ([.fieldLink RX5 65 "DearVotesModel" "seed" "I", .constant RX5 83 (1664525), .constant RX5 84 (1013904223)] ++ wsX50)
def wsX5_result : List Cond := .code yX5_result cX5_result 2 (some .int) :: ([.methodLink RX5 72 yX5_isQuestion, .instanceMethod yX5_isQuestion, .selects RX5 yX5_isQuestion yX5_isQuestion, .initialized RX5, .code yX5_isQuestion cX5_isQuestion 2 (some .boolean), .fieldLink RX5 59 "DearVotesModel" "questions" "I", .methodLink RX5 55 yX5_in, .static yX5_in, .code yX5_in cX5_in 3 (some .boolean), .methodLink RX5 79 yX5_others, .instanceMethod yX5_others, .selects RX5 yX5_others yX5_others, .code yX5_others cX5_others 5 (some .int), .fieldLink RX5 51 "DearVotesModel" "people" "I", .fieldLink RX5 13 "DearVotesModel" "isHere" "[Z", .fieldLink RX5 17 "DearVotesModel" "votes" "[I", .methodLink RX5 85 yX5_resultOf, .instanceMethod yX5_resultOf, .selects RX5 yX5_resultOf yX5_resultOf, .code yX5_resultOf cX5_resultOf 5 (some .int), .fieldLink RX5 65 "DearVotesModel" "seed" "I", .constant RX5 83 (1664525), .constant RX5 84 (1013904223)] ++ wsX50)
def wsX5_gainBy : List Cond := .code yX5_gainBy cX5_gainBy 2 (some .int) :: ([])
def wsX5_gainOf : List Cond := .code yX5_gainOf cX5_gainOf 4 (some .int) :: ([.fieldLink RX5 59 "DearVotesModel" "questions" "I", .fieldLink RX5 20 "DearVotesModel" "worths" "[I", .methodLink RX5 79 yX5_others, .instanceMethod yX5_others, .selects RX5 yX5_others yX5_others, .initialized RX5, .code yX5_others cX5_others 5 (some .int), .fieldLink RX5 51 "DearVotesModel" "people" "I", .fieldLink RX5 13 "DearVotesModel" "isHere" "[Z", .fieldLink RX5 17 "DearVotesModel" "votes" "[I", .methodLink RX5 88 yX5_gainBy, .static yX5_gainBy, .code yX5_gainBy cX5_gainBy 2 (some .int)] ++ wsX50)
def wsX5_gain_r1 : List Cond := [Cond.constant RX5 94 (-2000000), Cond.methodLink RX5 68 yX5_isPerson, Cond.instanceMethod yX5_isPerson, Cond.selects RX5 yX5_isPerson yX5_isPerson, Cond.initialized RX5, Cond.code yX5_isPerson cX5_isPerson 2 (some .boolean), Cond.fieldLink RX5 51 "DearVotesModel" "people" "I", Cond.methodLink RX5 55 yX5_in, Cond.static yX5_in, Cond.code yX5_in cX5_in 3 (some .boolean), Cond.methodLink RX5 91 yX5_gainOf, Cond.instanceMethod yX5_gainOf, Cond.selects RX5 yX5_gainOf yX5_gainOf, Cond.code yX5_gainOf cX5_gainOf 4 (some .int), Cond.fieldLink RX5 59 "DearVotesModel" "questions" "I", Cond.fieldLink RX5 20 "DearVotesModel" "worths" "[I", Cond.methodLink RX5 79 yX5_others, Cond.instanceMethod yX5_others, Cond.selects RX5 yX5_others yX5_others, Cond.code yX5_others cX5_others 5 (some .int), Cond.fieldLink RX5 13 "DearVotesModel" "isHere" "[Z", Cond.fieldLink RX5 17 "DearVotesModel" "votes" "[I", Cond.methodLink RX5 88 yX5_gainBy, Cond.static yX5_gainBy]
def wsX5_gain_r2 : List Cond := [Cond.code yX5_gainBy cX5_gainBy 2 (some .int)]
def wsX5_gain : List Cond := .code yX5_gain cX5_gain 2 (some .int) :: ((wsX5_gain_r1 ++ wsX5_gain_r2) ++ wsX50)
def wsX5_swings : List Cond := .code yX5_swings cX5_swings 5 (some .int) :: ([.fieldLink RX5 59 "DearVotesModel" "questions" "I", .fieldLink RX5 17 "DearVotesModel" "votes" "[I", .methodLink RX5 68 yX5_isPerson, .instanceMethod yX5_isPerson, .selects RX5 yX5_isPerson yX5_isPerson, .initialized RX5, .code yX5_isPerson cX5_isPerson 2 (some .boolean), .fieldLink RX5 51 "DearVotesModel" "people" "I", .methodLink RX5 55 yX5_in, .static yX5_in, .code yX5_in cX5_in 3 (some .boolean), .methodLink RX5 79 yX5_others, .instanceMethod yX5_others, .selects RX5 yX5_others yX5_others, .code yX5_others cX5_others 5 (some .int), .fieldLink RX5 13 "DearVotesModel" "isHere" "[Z", .methodLink RX5 85 yX5_resultOf, .instanceMethod yX5_resultOf, .selects RX5 yX5_resultOf yX5_resultOf, .code yX5_resultOf cX5_resultOf 5 (some .int), .fieldLink RX5 65 "DearVotesModel" "seed" "I", .constant RX5 83 (1664525), .constant RX5 84 (1013904223)] ++ wsX50)
def wsX5_end : List Cond := .code yX5_end cX5_end 3 none :: ([.fieldLink RX5 29 "DearVotesModel" "cheapest" "[I", .fieldLink RX5 32 "DearVotesModel" "may" "[Z", .methodLink RX5 55 yX5_in, .static yX5_in, .initialized RX5, .code yX5_in cX5_in 3 (some .boolean)] ++ wsX50)
def wsX5_isBetter : List Cond := .code yX5_isBetter cX5_isBetter 4 (some .boolean) :: ([.fieldLink RX5 95 "DearVotesModel" "hasBest" "Z", .fieldLink RX5 99 "DearVotesModel" "bestGain" "I", .fieldLink RX5 102 "DearVotesModel" "bestCost" "I", .fieldLink RX5 59 "DearVotesModel" "questions" "I", .fieldLink RX5 38 "DearVotesModel" "tryVoices" "[I", .fieldLink RX5 35 "DearVotesModel" "bestVoices" "[I"] ++ wsX50)
def wsX5_find_r1 : List Cond := [Cond.fieldLink RX5 59 "DearVotesModel" "questions" "I", Cond.fieldLink RX5 95 "DearVotesModel" "hasBest" "Z", Cond.fieldLink RX5 29 "DearVotesModel" "cheapest" "[I", Cond.fieldLink RX5 32 "DearVotesModel" "may" "[Z", Cond.fieldLink RX5 38 "DearVotesModel" "tryVoices" "[I", Cond.fieldLink RX5 20 "DearVotesModel" "worths" "[I", Cond.fieldLink RX5 7 "DearVotesModel" "budgets" "[I", Cond.fieldLink RX5 99 "DearVotesModel" "bestGain" "I", Cond.fieldLink RX5 102 "DearVotesModel" "bestCost" "I", Cond.fieldLink RX5 35 "DearVotesModel" "bestVoices" "[I", Cond.methodLink RX5 79 yX5_others, Cond.instanceMethod yX5_others, Cond.selects RX5 yX5_others yX5_others, Cond.initialized RX5, Cond.code yX5_others cX5_others 5 (some .int), Cond.fieldLink RX5 51 "DearVotesModel" "people" "I", Cond.fieldLink RX5 13 "DearVotesModel" "isHere" "[Z", Cond.fieldLink RX5 17 "DearVotesModel" "votes" "[I", Cond.methodLink RX5 105 yX5_end, Cond.instanceMethod yX5_end, Cond.selects RX5 yX5_end yX5_end, Cond.code yX5_end cX5_end 3 none, Cond.methodLink RX5 55 yX5_in, Cond.static yX5_in]
def wsX5_find_r2 : List Cond := [Cond.code yX5_in cX5_in 3 (some .boolean), Cond.methodLink RX5 109 yX5_isBetter, Cond.instanceMethod yX5_isBetter, Cond.selects RX5 yX5_isBetter yX5_isBetter, Cond.code yX5_isBetter cX5_isBetter 4 (some .boolean)]
def wsX5_find : List Cond := .code yX5_find cX5_find 11 none :: ((wsX5_find_r1 ++ wsX5_find_r2) ++ wsX50)
def wsX5_best_r1 : List Cond := [Cond.constant RX5 94 (-2000000), Cond.fieldLink RX5 99 "DearVotesModel" "bestGain" "I", Cond.methodLink RX5 68 yX5_isPerson, Cond.instanceMethod yX5_isPerson, Cond.selects RX5 yX5_isPerson yX5_isPerson, Cond.initialized RX5, Cond.code yX5_isPerson cX5_isPerson 2 (some .boolean), Cond.fieldLink RX5 51 "DearVotesModel" "people" "I", Cond.methodLink RX5 55 yX5_in, Cond.static yX5_in, Cond.code yX5_in cX5_in 3 (some .boolean), Cond.methodLink RX5 113 yX5_find, Cond.instanceMethod yX5_find, Cond.selects RX5 yX5_find yX5_find, Cond.code yX5_find cX5_find 11 none, Cond.fieldLink RX5 59 "DearVotesModel" "questions" "I", Cond.fieldLink RX5 95 "DearVotesModel" "hasBest" "Z", Cond.fieldLink RX5 29 "DearVotesModel" "cheapest" "[I", Cond.fieldLink RX5 32 "DearVotesModel" "may" "[Z", Cond.fieldLink RX5 38 "DearVotesModel" "tryVoices" "[I", Cond.fieldLink RX5 20 "DearVotesModel" "worths" "[I", Cond.fieldLink RX5 7 "DearVotesModel" "budgets" "[I", Cond.fieldLink RX5 102 "DearVotesModel" "bestCost" "I", Cond.fieldLink RX5 35 "DearVotesModel" "bestVoices" "[I"]
def wsX5_best_r2 : List Cond := [Cond.methodLink RX5 79 yX5_others, Cond.instanceMethod yX5_others, Cond.selects RX5 yX5_others yX5_others, Cond.code yX5_others cX5_others 5 (some .int), Cond.fieldLink RX5 13 "DearVotesModel" "isHere" "[Z", Cond.fieldLink RX5 17 "DearVotesModel" "votes" "[I", Cond.methodLink RX5 105 yX5_end, Cond.instanceMethod yX5_end, Cond.selects RX5 yX5_end yX5_end, Cond.code yX5_end cX5_end 3 none, Cond.methodLink RX5 109 yX5_isBetter, Cond.instanceMethod yX5_isBetter, Cond.selects RX5 yX5_isBetter yX5_isBetter, Cond.code yX5_isBetter cX5_isBetter 4 (some .boolean)]
def wsX5_best : List Cond := .code yX5_best cX5_best 2 (some .int) :: ((wsX5_best_r1 ++ wsX5_best_r2) ++ wsX50)
def wsX5_answer_r1 : List Cond := [Cond.fieldLink RX5 35 "DearVotesModel" "bestVoices" "[I", Cond.methodLink RX5 68 yX5_isPerson, Cond.instanceMethod yX5_isPerson, Cond.selects RX5 yX5_isPerson yX5_isPerson, Cond.initialized RX5, Cond.code yX5_isPerson cX5_isPerson 2 (some .boolean), Cond.fieldLink RX5 51 "DearVotesModel" "people" "I", Cond.methodLink RX5 55 yX5_in, Cond.static yX5_in, Cond.code yX5_in cX5_in 3 (some .boolean), Cond.methodLink RX5 72 yX5_isQuestion, Cond.instanceMethod yX5_isQuestion, Cond.selects RX5 yX5_isQuestion yX5_isQuestion, Cond.code yX5_isQuestion cX5_isQuestion 2 (some .boolean), Cond.fieldLink RX5 59 "DearVotesModel" "questions" "I", Cond.methodLink RX5 113 yX5_find, Cond.instanceMethod yX5_find, Cond.selects RX5 yX5_find yX5_find, Cond.code yX5_find cX5_find 11 none, Cond.fieldLink RX5 95 "DearVotesModel" "hasBest" "Z", Cond.fieldLink RX5 29 "DearVotesModel" "cheapest" "[I", Cond.fieldLink RX5 32 "DearVotesModel" "may" "[Z", Cond.fieldLink RX5 38 "DearVotesModel" "tryVoices" "[I", Cond.fieldLink RX5 20 "DearVotesModel" "worths" "[I"]
def wsX5_answer_r2 : List Cond := [Cond.fieldLink RX5 7 "DearVotesModel" "budgets" "[I", Cond.fieldLink RX5 99 "DearVotesModel" "bestGain" "I", Cond.fieldLink RX5 102 "DearVotesModel" "bestCost" "I", Cond.methodLink RX5 79 yX5_others, Cond.instanceMethod yX5_others, Cond.selects RX5 yX5_others yX5_others, Cond.code yX5_others cX5_others 5 (some .int), Cond.fieldLink RX5 13 "DearVotesModel" "isHere" "[Z", Cond.fieldLink RX5 17 "DearVotesModel" "votes" "[I", Cond.methodLink RX5 105 yX5_end, Cond.instanceMethod yX5_end, Cond.selects RX5 yX5_end yX5_end, Cond.code yX5_end cX5_end 3 none, Cond.methodLink RX5 109 yX5_isBetter, Cond.instanceMethod yX5_isBetter, Cond.selects RX5 yX5_isBetter yX5_isBetter, Cond.code yX5_isBetter cX5_isBetter 4 (some .boolean)]
def wsX5_answer : List Cond := .code yX5_answer cX5_answer 3 (some .int) :: ((wsX5_answer_r1 ++ wsX5_answer_r2) ++ wsX50)
def wsX5_adopt : List Cond := .code yX5_adopt cX5_adopt 3 none :: ([.fieldLink RX5 59 "DearVotesModel" "questions" "I", .fieldLink RX5 17 "DearVotesModel" "votes" "[I", .fieldLink RX5 35 "DearVotesModel" "bestVoices" "[I"] ++ wsX50)
def wsX5_take_r1 : List Cond := [Cond.fieldLink RX5 13 "DearVotesModel" "isHere" "[Z", Cond.methodLink RX5 68 yX5_isPerson, Cond.instanceMethod yX5_isPerson, Cond.selects RX5 yX5_isPerson yX5_isPerson, Cond.initialized RX5, Cond.code yX5_isPerson cX5_isPerson 2 (some .boolean), Cond.fieldLink RX5 51 "DearVotesModel" "people" "I", Cond.methodLink RX5 55 yX5_in, Cond.static yX5_in, Cond.code yX5_in cX5_in 3 (some .boolean), Cond.methodLink RX5 113 yX5_find, Cond.instanceMethod yX5_find, Cond.selects RX5 yX5_find yX5_find, Cond.code yX5_find cX5_find 11 none, Cond.fieldLink RX5 59 "DearVotesModel" "questions" "I", Cond.fieldLink RX5 95 "DearVotesModel" "hasBest" "Z", Cond.fieldLink RX5 29 "DearVotesModel" "cheapest" "[I", Cond.fieldLink RX5 32 "DearVotesModel" "may" "[Z", Cond.fieldLink RX5 38 "DearVotesModel" "tryVoices" "[I", Cond.fieldLink RX5 20 "DearVotesModel" "worths" "[I", Cond.fieldLink RX5 7 "DearVotesModel" "budgets" "[I", Cond.fieldLink RX5 99 "DearVotesModel" "bestGain" "I", Cond.fieldLink RX5 102 "DearVotesModel" "bestCost" "I", Cond.fieldLink RX5 35 "DearVotesModel" "bestVoices" "[I"]
def wsX5_take_r2 : List Cond := [Cond.methodLink RX5 79 yX5_others, Cond.instanceMethod yX5_others, Cond.selects RX5 yX5_others yX5_others, Cond.code yX5_others cX5_others 5 (some .int), Cond.fieldLink RX5 17 "DearVotesModel" "votes" "[I", Cond.methodLink RX5 105 yX5_end, Cond.instanceMethod yX5_end, Cond.selects RX5 yX5_end yX5_end, Cond.code yX5_end cX5_end 3 none, Cond.methodLink RX5 109 yX5_isBetter, Cond.instanceMethod yX5_isBetter, Cond.selects RX5 yX5_isBetter yX5_isBetter, Cond.code yX5_isBetter cX5_isBetter 4 (some .boolean), Cond.methodLink RX5 117 yX5_adopt, Cond.instanceMethod yX5_adopt, Cond.selects RX5 yX5_adopt yX5_adopt, Cond.code yX5_adopt cX5_adopt 3 none, Cond.methodLink RX5 75 yX5_costOf, Cond.instanceMethod yX5_costOf, Cond.selects RX5 yX5_costOf yX5_costOf, Cond.code yX5_costOf cX5_costOf 4 (some .int)]
def wsX5_take : List Cond := .code yX5_take cX5_take 2 (some .int) :: ((wsX5_take_r1 ++ wsX5_take_r2) ++ wsX50)
def wsX5_isAsBehind : List Cond := .code yX5_isAsBehind cX5_isAsBehind 4 (some .boolean) :: ([.fieldLink RX5 41 "DearVotesModel" "past" "[I", .fieldLink RX5 17 "DearVotesModel" "votes" "[I"] ++ wsX50)
def wsX5_keep : List Cond := .code yX5_keep cX5_keep 3 none :: ([.fieldLink RX5 41 "DearVotesModel" "past" "[I", .fieldLink RX5 17 "DearVotesModel" "votes" "[I"] ++ wsX50)
def wsX5_play_r1 : List Cond := [Cond.fieldLink RX5 120 "DearVotesModel" "ended" "I", Cond.fieldLink RX5 123 "DearVotesModel" "ring" "I", Cond.fieldLink RX5 129 "DearVotesModel" "rounds" "I", Cond.fieldLink RX5 51 "DearVotesModel" "people" "I", Cond.fieldLink RX5 13 "DearVotesModel" "isHere" "[Z", Cond.fieldLink RX5 99 "DearVotesModel" "bestGain" "I", Cond.fieldLink RX5 132 "DearVotesModel" "changes" "I", Cond.methodLink RX5 55 yX5_in, Cond.static yX5_in, Cond.initialized RX5, Cond.code yX5_in cX5_in 3 (some .boolean), Cond.methodLink RX5 126 yX5_keep, Cond.instanceMethod yX5_keep, Cond.selects RX5 yX5_keep yX5_keep, Cond.code yX5_keep cX5_keep 3 none, Cond.fieldLink RX5 41 "DearVotesModel" "past" "[I", Cond.fieldLink RX5 17 "DearVotesModel" "votes" "[I", Cond.methodLink RX5 113 yX5_find, Cond.instanceMethod yX5_find, Cond.selects RX5 yX5_find yX5_find, Cond.code yX5_find cX5_find 11 none, Cond.fieldLink RX5 59 "DearVotesModel" "questions" "I", Cond.fieldLink RX5 95 "DearVotesModel" "hasBest" "Z", Cond.fieldLink RX5 29 "DearVotesModel" "cheapest" "[I"]
def wsX5_play_r2 : List Cond := [Cond.fieldLink RX5 32 "DearVotesModel" "may" "[Z", Cond.fieldLink RX5 38 "DearVotesModel" "tryVoices" "[I", Cond.fieldLink RX5 20 "DearVotesModel" "worths" "[I", Cond.fieldLink RX5 7 "DearVotesModel" "budgets" "[I", Cond.fieldLink RX5 102 "DearVotesModel" "bestCost" "I", Cond.fieldLink RX5 35 "DearVotesModel" "bestVoices" "[I", Cond.methodLink RX5 79 yX5_others, Cond.instanceMethod yX5_others, Cond.selects RX5 yX5_others yX5_others, Cond.code yX5_others cX5_others 5 (some .int), Cond.methodLink RX5 105 yX5_end, Cond.instanceMethod yX5_end, Cond.selects RX5 yX5_end yX5_end, Cond.code yX5_end cX5_end 3 none, Cond.methodLink RX5 109 yX5_isBetter, Cond.instanceMethod yX5_isBetter, Cond.selects RX5 yX5_isBetter yX5_isBetter, Cond.code yX5_isBetter cX5_isBetter 4 (some .boolean), Cond.methodLink RX5 91 yX5_gainOf, Cond.instanceMethod yX5_gainOf, Cond.selects RX5 yX5_gainOf yX5_gainOf, Cond.code yX5_gainOf cX5_gainOf 4 (some .int), Cond.methodLink RX5 88 yX5_gainBy, Cond.static yX5_gainBy]
def wsX5_play_r3 : List Cond := [Cond.code yX5_gainBy cX5_gainBy 2 (some .int), Cond.methodLink RX5 117 yX5_adopt, Cond.instanceMethod yX5_adopt, Cond.selects RX5 yX5_adopt yX5_adopt, Cond.code yX5_adopt cX5_adopt 3 none, Cond.methodLink RX5 135 yX5_isAsBehind, Cond.instanceMethod yX5_isAsBehind, Cond.selects RX5 yX5_isAsBehind yX5_isAsBehind, Cond.code yX5_isAsBehind cX5_isAsBehind 4 (some .boolean)]
def wsX5_play : List Cond := .code yX5_play cX5_play 5 (some .int) :: ((wsX5_play_r1 ++ (wsX5_play_r2 ++ wsX5_play_r3)) ++ wsX50)
def wsX5_ended : List Cond := .code yX5_ended cX5_ended 1 (some .int) :: ([.fieldLink RX5 120 "DearVotesModel" "ended" "I"] ++ wsX50)
def wsX5_ring : List Cond := .code yX5_ring cX5_ring 1 (some .int) :: ([.fieldLink RX5 123 "DearVotesModel" "ring" "I"] ++ wsX50)
def wsX5_gift : List Cond := .code yX5_gift cX5_gift 5 (some .int) :: ([.constant RX5 141 (1000000), .fieldLink RX5 23 "DearVotesModel" "gifts" "[I", .methodLink RX5 68 yX5_isPerson, .instanceMethod yX5_isPerson, .selects RX5 yX5_isPerson yX5_isPerson, .initialized RX5, .code yX5_isPerson cX5_isPerson 2 (some .boolean), .fieldLink RX5 51 "DearVotesModel" "people" "I", .methodLink RX5 55 yX5_in, .static yX5_in, .code yX5_in cX5_in 3 (some .boolean), .methodLink RX5 138 yX5_isProject, .instanceMethod yX5_isProject, .selects RX5 yX5_isProject yX5_isProject, .code yX5_isProject cX5_isProject 2 (some .boolean), .fieldLink RX5 62 "DearVotesModel" "projects" "I"] ++ wsX50)
def wsX5_bond : List Cond := .code yX5_bond cX5_bond 5 (some .int) :: ([.fieldLink RX5 26 "DearVotesModel" "bonds" "[I", .methodLink RX5 68 yX5_isPerson, .instanceMethod yX5_isPerson, .selects RX5 yX5_isPerson yX5_isPerson, .initialized RX5, .code yX5_isPerson cX5_isPerson 2 (some .boolean), .fieldLink RX5 51 "DearVotesModel" "people" "I", .methodLink RX5 55 yX5_in, .static yX5_in, .code yX5_in cX5_in 3 (some .boolean)] ++ wsX50)
def wsX5_root : List Cond := .code yX5_root cX5_root 7 (some .long) :: ([])
def wsX5_matchedOf : List Cond := .code yX5_matchedOf cX5_matchedOf 14 (some .long) :: ([.fieldLink RX5 51 "DearVotesModel" "people" "I", .constantLong RX5 142 (65536), .fieldLink RX5 23 "DearVotesModel" "gifts" "[I", .constantLong RX5 144 (1000), .fieldLink RX5 26 "DearVotesModel" "bonds" "[I", .constantLong RX5 150 (2), .constantLong RX5 152 (255999), .constantLong RX5 154 (256000), .methodLink RX5 146 yX5_root, .static yX5_root, .initialized RX5, .code yX5_root cX5_root 7 (some .long)] ++ wsX50)
def wsX5_matched_r1 : List Cond := [Cond.constantLong RX5 156 (-101), Cond.constantLong RX5 162 (-102), Cond.methodLink RX5 138 yX5_isProject, Cond.instanceMethod yX5_isProject, Cond.selects RX5 yX5_isProject yX5_isProject, Cond.initialized RX5, Cond.code yX5_isProject cX5_isProject 2 (some .boolean), Cond.fieldLink RX5 62 "DearVotesModel" "projects" "I", Cond.methodLink RX5 55 yX5_in, Cond.static yX5_in, Cond.code yX5_in cX5_in 3 (some .boolean), Cond.methodLink RX5 158 yX5_matchedOf, Cond.instanceMethod yX5_matchedOf, Cond.selects RX5 yX5_matchedOf yX5_matchedOf, Cond.code yX5_matchedOf cX5_matchedOf 14 (some .long), Cond.fieldLink RX5 51 "DearVotesModel" "people" "I", Cond.constantLong RX5 142 (65536), Cond.fieldLink RX5 23 "DearVotesModel" "gifts" "[I", Cond.constantLong RX5 144 (1000), Cond.fieldLink RX5 26 "DearVotesModel" "bonds" "[I", Cond.constantLong RX5 150 (2), Cond.constantLong RX5 152 (255999), Cond.constantLong RX5 154 (256000), Cond.methodLink RX5 146 yX5_root]
def wsX5_matched_r2 : List Cond := [Cond.static yX5_root, Cond.code yX5_root cX5_root 7 (some .long)]
def wsX5_matched : List Cond := .code yX5_matched cX5_matched 3 (some .long) :: ((wsX5_matched_r1 ++ wsX5_matched_r2) ++ wsX50)
def wsX5_share_r1 : List Cond := [Cond.constantLong RX5 156 (-101), Cond.constantLong RX5 164 (1000000000), Cond.constantLong RX5 162 (-102), Cond.fieldLink RX5 62 "DearVotesModel" "projects" "I", Cond.fieldLink RX5 44 "DearVotesModel" "parts" "[J", Cond.fieldLink RX5 48 "DearVotesModel" "rests" "[J", Cond.constantLong RX5 166 (-1), Cond.methodLink RX5 138 yX5_isProject, Cond.instanceMethod yX5_isProject, Cond.selects RX5 yX5_isProject yX5_isProject, Cond.initialized RX5, Cond.code yX5_isProject cX5_isProject 2 (some .boolean), Cond.methodLink RX5 55 yX5_in, Cond.static yX5_in, Cond.code yX5_in cX5_in 3 (some .boolean), Cond.methodLink RX5 158 yX5_matchedOf, Cond.instanceMethod yX5_matchedOf, Cond.selects RX5 yX5_matchedOf yX5_matchedOf, Cond.code yX5_matchedOf cX5_matchedOf 14 (some .long), Cond.fieldLink RX5 51 "DearVotesModel" "people" "I", Cond.constantLong RX5 142 (65536), Cond.fieldLink RX5 23 "DearVotesModel" "gifts" "[I", Cond.constantLong RX5 144 (1000), Cond.fieldLink RX5 26 "DearVotesModel" "bonds" "[I"]
def wsX5_share_r2 : List Cond := [Cond.constantLong RX5 150 (2), Cond.constantLong RX5 152 (255999), Cond.constantLong RX5 154 (256000), Cond.methodLink RX5 146 yX5_root, Cond.static yX5_root, Cond.code yX5_root cX5_root 7 (some .long)]
def wsX5_share : List Cond := .code yX5_share cX5_share 10 (some .long) :: ((wsX5_share_r1 ++ wsX5_share_r2) ++ wsX50)
def wsX5_damped_r1 : List Cond := [Cond.constantLong RX5 156 (-101), Cond.methodLink RX5 138 yX5_isProject, Cond.instanceMethod yX5_isProject, Cond.selects RX5 yX5_isProject yX5_isProject, Cond.initialized RX5, Cond.code yX5_isProject cX5_isProject 2 (some .boolean), Cond.fieldLink RX5 62 "DearVotesModel" "projects" "I", Cond.methodLink RX5 55 yX5_in, Cond.static yX5_in, Cond.code yX5_in cX5_in 3 (some .boolean), Cond.methodLink RX5 158 yX5_matchedOf, Cond.instanceMethod yX5_matchedOf, Cond.selects RX5 yX5_matchedOf yX5_matchedOf, Cond.code yX5_matchedOf cX5_matchedOf 14 (some .long), Cond.fieldLink RX5 51 "DearVotesModel" "people" "I", Cond.constantLong RX5 142 (65536), Cond.fieldLink RX5 23 "DearVotesModel" "gifts" "[I", Cond.constantLong RX5 144 (1000), Cond.fieldLink RX5 26 "DearVotesModel" "bonds" "[I", Cond.constantLong RX5 150 (2), Cond.constantLong RX5 152 (255999), Cond.constantLong RX5 154 (256000), Cond.methodLink RX5 146 yX5_root, Cond.static yX5_root]
def wsX5_damped_r2 : List Cond := [Cond.code yX5_root cX5_root 7 (some .long)]
def wsX5_damped : List Cond := .code yX5_damped cX5_damped 2 (some .long) :: ((wsX5_damped_r1 ++ wsX5_damped_r2) ++ wsX50)
def wsX5_likenessOf : List Cond := .code yX5_likenessOf cX5_likenessOf 8 (some .int) :: ([.fieldLink RX5 59 "DearVotesModel" "questions" "I", .fieldLink RX5 17 "DearVotesModel" "votes" "[I", .constantLong RX5 144 (1000), .methodLink RX5 75 yX5_costOf, .instanceMethod yX5_costOf, .selects RX5 yX5_costOf yX5_costOf, .initialized RX5, .code yX5_costOf cX5_costOf 4 (some .int)] ++ wsX50)
def wsX5_likeness : List Cond := .code yX5_likeness cX5_likeness 3 (some .int) :: ([.methodLink RX5 68 yX5_isPerson, .instanceMethod yX5_isPerson, .selects RX5 yX5_isPerson yX5_isPerson, .initialized RX5, .code yX5_isPerson cX5_isPerson 2 (some .boolean), .fieldLink RX5 51 "DearVotesModel" "people" "I", .methodLink RX5 55 yX5_in, .static yX5_in, .code yX5_in cX5_in 3 (some .boolean), .methodLink RX5 168 yX5_likenessOf, .instanceMethod yX5_likenessOf, .selects RX5 yX5_likenessOf yX5_likenessOf, .code yX5_likenessOf cX5_likenessOf 8 (some .int), .fieldLink RX5 59 "DearVotesModel" "questions" "I", .fieldLink RX5 17 "DearVotesModel" "votes" "[I", .constantLong RX5 144 (1000), .methodLink RX5 75 yX5_costOf, .instanceMethod yX5_costOf, .selects RX5 yX5_costOf yX5_costOf, .code yX5_costOf cX5_costOf 4 (some .int)] ++ wsX50)
def wsX5_group : List Cond := .code yX5_group cX5_group 7 (some .int) :: ([.fieldLink RX5 51 "DearVotesModel" "people" "I", .methodLink RX5 68 yX5_isPerson, .instanceMethod yX5_isPerson, .selects RX5 yX5_isPerson yX5_isPerson, .initialized RX5, .code yX5_isPerson cX5_isPerson 2 (some .boolean), .methodLink RX5 55 yX5_in, .static yX5_in, .code yX5_in cX5_in 3 (some .boolean), .methodLink RX5 168 yX5_likenessOf, .instanceMethod yX5_likenessOf, .selects RX5 yX5_likenessOf yX5_likenessOf, .code yX5_likenessOf cX5_likenessOf 8 (some .int), .fieldLink RX5 59 "DearVotesModel" "questions" "I", .fieldLink RX5 17 "DearVotesModel" "votes" "[I", .constantLong RX5 144 (1000), .methodLink RX5 75 yX5_costOf, .instanceMethod yX5_costOf, .selects RX5 yX5_costOf yX5_costOf, .code yX5_costOf cX5_costOf 4 (some .int)] ++ wsX50)
def wsX5_count : List Cond := .code yX5_count cX5_count 4 (some .int) :: ([.fieldLink RX5 51 "DearVotesModel" "people" "I", .fieldLink RX5 59 "DearVotesModel" "questions" "I", .fieldLink RX5 62 "DearVotesModel" "projects" "I", .fieldLink RX5 13 "DearVotesModel" "isHere" "[Z", .fieldLink RX5 129 "DearVotesModel" "rounds" "I", .fieldLink RX5 132 "DearVotesModel" "changes" "I"] ++ wsX50)
def wsX5_mix : List Cond := .code yX5_mix cX5_mix 3 none :: ([.constantLong RX5 171 (31), .fieldLink RX5 173 "DearVotesModel" "h" "J"] ++ wsX50)
def wsX5_digest : List Cond := .code yX5_digest cX5_digest 3 (some .long) :: ([.constantLong RX5 177 (103), .fieldLink RX5 173 "DearVotesModel" "h" "J", .fieldLink RX5 51 "DearVotesModel" "people" "I", .fieldLink RX5 7 "DearVotesModel" "budgets" "[I", .fieldLink RX5 13 "DearVotesModel" "isHere" "[Z", .fieldLink RX5 59 "DearVotesModel" "questions" "I", .fieldLink RX5 17 "DearVotesModel" "votes" "[I", .fieldLink RX5 20 "DearVotesModel" "worths" "[I", .fieldLink RX5 62 "DearVotesModel" "projects" "I", .fieldLink RX5 23 "DearVotesModel" "gifts" "[I", .fieldLink RX5 26 "DearVotesModel" "bonds" "[I", .fieldLink RX5 65 "DearVotesModel" "seed" "I", .fieldLink RX5 129 "DearVotesModel" "rounds" "I", .fieldLink RX5 132 "DearVotesModel" "changes" "I", .methodLink RX5 179 yX5_mix, .instanceMethod yX5_mix, .selects RX5 yX5_mix yX5_mix, .initialized RX5, .code yX5_mix cX5_mix 3 none, .constantLong RX5 171 (31)] ++ wsX50)
def wsL_law_r1 : List Cond := [Cond.classLink RL 7 RX4, Cond.instantiable RX4 4, Cond.initialized RX4, Cond.classLink RL 10 RX5, Cond.instantiable RX5 25, Cond.initialized RX5, Cond.constantLong RL 107 (4294967295), Cond.methodLink RL 9 yX4_init, Cond.instanceMethod yX4_init, Cond.code yX4_init cX4_init 1 none, Cond.methodLink RX4 1 objectInit, Cond.instanceMethod objectInit, Cond.code objectInit ⟨#[0xb1]⟩ 1 none, Cond.classLink RX4 7 RX1, Cond.instantiable RX1 7, Cond.initialized RX1, Cond.fieldLink RX4 10 "DearVotes" "house" "LDearVotes$House;", Cond.classLink RX4 16 RX3, Cond.instantiable RX3 10, Cond.initialized RX3, Cond.fieldLink RX4 21 "DearVotes" "search" "LDearVotes$Search;", Cond.classLink RX4 25 RX2, Cond.instantiable RX2 7, Cond.initialized RX2]
def wsL_law_r2 : List Cond := [Cond.fieldLink RX4 30 "DearVotes" "rounds" "LDearVotes$Rounds;", Cond.classLink RX4 34 RX0, Cond.instantiable RX0 5, Cond.initialized RX0, Cond.fieldLink RX4 37 "DearVotes" "fund" "LDearVotes$Fund;", Cond.instanceMethod yX1_init, Cond.code yX1_init cX1_init 1 none, Cond.methodLink RX1 3 objectInit, Cond.arrayClass .int, Cond.fieldLink RX1 9 "DearVotes$House" "budgets" "[I", Cond.arrayClass .boolean, Cond.fieldLink RX1 15 "DearVotes$House" "present" "[Z", Cond.classLink RX1 19 "[[I", Cond.fieldLink RX1 21 "DearVotes$House" "voices" "[[I", Cond.fieldLink RX1 24 "DearVotes$House" "worths" "[[I", Cond.methodLink RX4 18 yX3_init, Cond.instanceMethod yX3_init, Cond.code yX3_init cX3_init 2 none, Cond.methodLink RX3 3 objectInit, Cond.fieldLink RX3 9 "DearVotes$Search" "choices" "[I", Cond.classLink RX3 15 "[[I", Cond.fieldLink RX3 17 "DearVotes$Search" "choiceVoices" "[[I", Cond.fieldLink RX3 20 "DearVotes$Search" "choiceGains" "[[I", Cond.fieldLink RX3 23 "DearVotes$Search" "gainAhead" "[I"]
def wsL_law_r3 : List Cond := [Cond.fieldLink RX3 26 "DearVotes$Search" "tried" "[I", Cond.fieldLink RX3 29 "DearVotes$Search" "found" "[I", Cond.fieldLink RX3 32 "DearVotes$Search" "house" "LDearVotes$House;", Cond.methodLink RX4 27 yX2_init, Cond.instanceMethod yX2_init, Cond.code yX2_init cX2_init 3 none, Cond.methodLink RX2 3 objectInit, Cond.classLink RX2 9 "[[J", Cond.arrayClass .long, Cond.fieldLink RX2 11 "DearVotes$Rounds" "trail" "[[J", Cond.fieldLink RX2 16 "DearVotes$Rounds" "ending" "I", Cond.fieldLink RX2 20 "DearVotes$Rounds" "house" "LDearVotes$House;", Cond.fieldLink RX2 24 "DearVotes$Rounds" "search" "LDearVotes$Search;", Cond.methodLink RX4 36 yX0_init, Cond.instanceMethod yX0_init, Cond.code yX0_init cX0_init 4 none, Cond.methodLink RX0 3 objectInit, Cond.classLink RX0 9 "[[I", Cond.fieldLink RX0 11 "DearVotes$Fund" "gifts" "[[I", Cond.fieldLink RX0 16 "DearVotes$Fund" "bonds" "[[I", Cond.fieldLink RX0 19 "DearVotes$Fund" "lows" "[J", Cond.fieldLink RX0 23 "DearVotes$Fund" "house" "LDearVotes$House;", Cond.methodLink RL 12 yX5_init, Cond.instanceMethod yX5_init]
def wsL_law_r4 : List Cond := [Cond.code yX5_init cX5_init 2 none, Cond.methodLink RX5 1 objectInit, Cond.fieldLink RX5 7 "DearVotesModel" "budgets" "[I", Cond.fieldLink RX5 13 "DearVotesModel" "isHere" "[Z", Cond.fieldLink RX5 17 "DearVotesModel" "votes" "[I", Cond.fieldLink RX5 20 "DearVotesModel" "worths" "[I", Cond.fieldLink RX5 23 "DearVotesModel" "gifts" "[I", Cond.fieldLink RX5 26 "DearVotesModel" "bonds" "[I", Cond.fieldLink RX5 29 "DearVotesModel" "cheapest" "[I", Cond.fieldLink RX5 32 "DearVotesModel" "may" "[Z", Cond.fieldLink RX5 35 "DearVotesModel" "bestVoices" "[I", Cond.fieldLink RX5 38 "DearVotesModel" "tryVoices" "[I", Cond.fieldLink RX5 41 "DearVotesModel" "past" "[I", Cond.fieldLink RX5 44 "DearVotesModel" "parts" "[J", Cond.fieldLink RX5 48 "DearVotesModel" "rests" "[J", Cond.methodLink RL 13 yX4_person, Cond.instanceMethod yX4_person, Cond.selects RX4 yX4_person yX4_person, Cond.code yX4_person cX4_person 2 (some .int), Cond.fieldLink RX4 45 "DearVotes$House" "people" "I", Cond.methodLink RX4 41 yX4_isWithin, Cond.static yX4_isWithin, Cond.code yX4_isWithin cX4_isWithin 3 (some .boolean), Cond.methodLink RX4 49 yX1_addPerson]
def wsL_law_r5 : List Cond := [Cond.instanceMethod yX1_addPerson, Cond.selects RX1 yX1_addPerson yX1_addPerson, Cond.code yX1_addPerson cX1_addPerson 2 (some .int), Cond.fieldLink RX1 27 "DearVotes$House" "people" "I", Cond.methodLink RL 17 yX5_person, Cond.instanceMethod yX5_person, Cond.selects RX5 yX5_person yX5_person, Cond.code yX5_person cX5_person 2 (some .int), Cond.fieldLink RX5 51 "DearVotesModel" "people" "I", Cond.methodLink RX5 55 yX5_in, Cond.static yX5_in, Cond.code yX5_in cX5_in 3 (some .boolean), Cond.methodLink RL 18 yX4_question, Cond.instanceMethod yX4_question, Cond.selects RX4 yX4_question yX4_question, Cond.code yX4_question cX4_question 1 (some .int), Cond.fieldLink RX4 53 "DearVotes$House" "questions" "I", Cond.methodLink RL 22 yX5_question, Cond.instanceMethod yX5_question, Cond.selects RX5 yX5_question yX5_question, Cond.code yX5_question cX5_question 1 (some .int), Cond.fieldLink RX5 59 "DearVotesModel" "questions" "I", Cond.methodLink RL 23 yX4_project, Cond.instanceMethod yX4_project]
def wsL_law_r6 : List Cond := [Cond.selects RX4 yX4_project yX4_project, Cond.code yX4_project cX4_project 1 (some .int), Cond.fieldLink RX4 56 "DearVotes$Fund" "projects" "I", Cond.methodLink RL 26 yX5_project, Cond.instanceMethod yX5_project, Cond.selects RX5 yX5_project yX5_project, Cond.code yX5_project cX5_project 1 (some .int), Cond.fieldLink RX5 62 "DearVotesModel" "projects" "I", Cond.methodLink RL 27 yX4_seed, Cond.instanceMethod yX4_seed, Cond.selects RX4 yX4_seed yX4_seed, Cond.code yX4_seed cX4_seed 3 (some .int), Cond.fieldLink RX4 59 "DearVotes$House" "seed" "I", Cond.methodLink RL 30 yX5_seed, Cond.instanceMethod yX5_seed, Cond.selects RX5 yX5_seed yX5_seed, Cond.code yX5_seed cX5_seed 3 (some .int), Cond.fieldLink RX5 65 "DearVotesModel" "seed" "I", Cond.methodLink RL 31 yX4_vote, Cond.instanceMethod yX4_vote, Cond.selects RX4 yX4_vote yX4_vote, Cond.code yX4_vote cX4_vote 6 (some .int), Cond.fieldLink RX4 69 "DearVotes$House" "voices" "[[I", Cond.fieldLink RX4 76 "DearVotes$House" "budgets" "[I"]
def wsL_law_r7 : List Cond := [Cond.methodLink RX4 62 yX1_hasPerson, Cond.instanceMethod yX1_hasPerson, Cond.selects RX1 yX1_hasPerson yX1_hasPerson, Cond.code yX1_hasPerson cX1_hasPerson 2 (some .boolean), Cond.methodLink RX4 66 yX1_hasQuestion, Cond.instanceMethod yX1_hasQuestion, Cond.selects RX1 yX1_hasQuestion yX1_hasQuestion, Cond.code yX1_hasQuestion cX1_hasQuestion 2 (some .boolean), Cond.fieldLink RX1 31 "DearVotes$House" "questions" "I", Cond.methodLink RX4 73 yX1_costOf, Cond.instanceMethod yX1_costOf, Cond.selects RX1 yX1_costOf yX1_costOf, Cond.code yX1_costOf cX1_costOf 4 (some .int), Cond.methodLink RL 35 yX5_vote, Cond.instanceMethod yX5_vote, Cond.selects RX5 yX5_vote yX5_vote, Cond.code yX5_vote cX5_vote 6 (some .int), Cond.methodLink RX5 68 yX5_isPerson, Cond.instanceMethod yX5_isPerson, Cond.selects RX5 yX5_isPerson yX5_isPerson, Cond.code yX5_isPerson cX5_isPerson 2 (some .boolean), Cond.methodLink RX5 72 yX5_isQuestion, Cond.instanceMethod yX5_isQuestion, Cond.selects RX5 yX5_isQuestion yX5_isQuestion]
def wsL_law_r8 : List Cond := [Cond.code yX5_isQuestion cX5_isQuestion 2 (some .boolean), Cond.methodLink RX5 75 yX5_costOf, Cond.instanceMethod yX5_costOf, Cond.selects RX5 yX5_costOf yX5_costOf, Cond.code yX5_costOf cX5_costOf 4 (some .int), Cond.methodLink RL 36 yX4_worth, Cond.instanceMethod yX4_worth, Cond.selects RX4 yX4_worth yX4_worth, Cond.code yX4_worth cX4_worth 5 (some .int), Cond.fieldLink RX4 80 "DearVotes$House" "worths" "[[I", Cond.methodLink RL 39 yX5_worth, Cond.instanceMethod yX5_worth, Cond.selects RX5 yX5_worth yX5_worth, Cond.code yX5_worth cX5_worth 5 (some .int), Cond.methodLink RL 40 yX4_here, Cond.instanceMethod yX4_here, Cond.selects RX4 yX4_here yX4_here, Cond.code yX4_here cX4_here 4 (some .int), Cond.fieldLink RX4 83 "DearVotes$House" "present" "[Z", Cond.methodLink RL 44 yX5_here, Cond.instanceMethod yX5_here, Cond.selects RX5 yX5_here yX5_here, Cond.code yX5_here cX5_here 4 (some .int), Cond.methodLink RL 45 yX4_voices]
def wsL_law_r9 : List Cond := [Cond.instanceMethod yX4_voices, Cond.selects RX4 yX4_voices yX4_voices, Cond.code yX4_voices cX4_voices 3 (some .int), Cond.methodLink RL 49 yX5_voices, Cond.instanceMethod yX5_voices, Cond.selects RX5 yX5_voices yX5_voices, Cond.code yX5_voices cX5_voices 3 (some .int), Cond.methodLink RL 50 yX4_cost, Cond.instanceMethod yX4_cost, Cond.selects RX4 yX4_cost yX4_cost, Cond.code yX4_cost cX4_cost 2 (some .int), Cond.methodLink RL 53 yX5_cost, Cond.instanceMethod yX5_cost, Cond.selects RX5 yX5_cost yX5_cost, Cond.code yX5_cost cX5_cost 2 (some .int), Cond.methodLink RL 54 yX4_total, Cond.instanceMethod yX4_total, Cond.selects RX4 yX4_total yX4_total, Cond.code yX4_total cX4_total 2 (some .int), Cond.methodLink RX4 87 yX1_countOf, Cond.instanceMethod yX1_countOf, Cond.selects RX1 yX1_countOf yX1_countOf, Cond.code yX1_countOf cX1_countOf 4 (some .int), Cond.methodLink RL 57 yX5_total]
def wsL_law_r10 : List Cond := [Cond.instanceMethod yX5_total, Cond.selects RX5 yX5_total yX5_total, Cond.code yX5_total cX5_total 2 (some .int), Cond.methodLink RX5 79 yX5_others, Cond.instanceMethod yX5_others, Cond.selects RX5 yX5_others yX5_others, Cond.code yX5_others cX5_others 5 (some .int), Cond.methodLink RL 58 yX4_result, Cond.instanceMethod yX4_result, Cond.selects RX4 yX4_result yX4_result, Cond.code yX4_result cX4_result 2 (some .int), Cond.methodLink RX4 90 yX1_resultOf, Cond.instanceMethod yX1_resultOf, Cond.selects RX1 yX1_resultOf yX1_resultOf, Cond.code yX1_resultOf cX1_resultOf 5 (some .int), Cond.fieldLink RX1 38 "DearVotes$House" "seed" "I", Cond.constant RX1 41 (1664525), Cond.constant RX1 42 (1013904223), Cond.methodLink RL 61 yX5_result, Cond.instanceMethod yX5_result, Cond.selects RX5 yX5_result yX5_result, Cond.code yX5_result cX5_result 2 (some .int), Cond.methodLink RX5 85 yX5_resultOf, Cond.instanceMethod yX5_resultOf]
def wsL_law_r11 : List Cond := [Cond.selects RX5 yX5_resultOf yX5_resultOf, Cond.code yX5_resultOf cX5_resultOf 5 (some .int), Cond.constant RX5 83 (1664525), Cond.constant RX5 84 (1013904223), Cond.methodLink RL 62 yX4_gain, Cond.instanceMethod yX4_gain, Cond.selects RX4 yX4_gain yX4_gain, Cond.code yX4_gain cX4_gain 2 (some .int), Cond.constant RX4 94 (-2000000), Cond.methodLink RX4 95 yX1_gainOf, Cond.instanceMethod yX1_gainOf, Cond.selects RX1 yX1_gainOf yX1_gainOf, Cond.code yX1_gainOf cX1_gainOf 4 (some .int), Cond.methodLink RX1 34 yX1_countOf, Cond.methodLink RX1 43 yX1_gainBy, Cond.static yX1_gainBy, Cond.code yX1_gainBy cX1_gainBy 2 (some .int), Cond.methodLink RL 65 yX5_gain, Cond.instanceMethod yX5_gain, Cond.selects RX5 yX5_gain yX5_gain, Cond.code yX5_gain cX5_gain 2 (some .int), Cond.constant RX5 94 (-2000000), Cond.methodLink RX5 91 yX5_gainOf, Cond.instanceMethod yX5_gainOf]
def wsL_law_r12 : List Cond := [Cond.selects RX5 yX5_gainOf yX5_gainOf, Cond.code yX5_gainOf cX5_gainOf 4 (some .int), Cond.methodLink RX5 88 yX5_gainBy, Cond.static yX5_gainBy, Cond.code yX5_gainBy cX5_gainBy 2 (some .int), Cond.methodLink RL 66 yX4_swings, Cond.instanceMethod yX4_swings, Cond.selects RX4 yX4_swings yX4_swings, Cond.code yX4_swings cX4_swings 2 (some .int), Cond.methodLink RX4 98 yX1_swingsOf, Cond.instanceMethod yX1_swingsOf, Cond.selects RX1 yX1_swingsOf yX1_swingsOf, Cond.code yX1_swingsOf cX1_swingsOf 5 (some .int), Cond.methodLink RX1 47 yX1_countWithout, Cond.instanceMethod yX1_countWithout, Cond.selects RX1 yX1_countWithout yX1_countWithout, Cond.code yX1_countWithout cX1_countWithout 4 (some .int), Cond.methodLink RX1 50 yX1_resultOf, Cond.methodLink RL 69 yX5_swings, Cond.instanceMethod yX5_swings, Cond.selects RX5 yX5_swings yX5_swings, Cond.code yX5_swings cX5_swings 5 (some .int), Cond.methodLink RL 70 yX4_best, Cond.instanceMethod yX4_best]
def wsL_law_r13 : List Cond := [Cond.selects RX4 yX4_best yX4_best, Cond.code yX4_best cX4_best 2 (some .int), Cond.fieldLink RX4 105 "DearVotes$Search" "foundGain" "I", Cond.methodLink RX4 101 yX3_findFor, Cond.instanceMethod yX3_findFor, Cond.selects RX3 yX3_findFor yX3_findFor, Cond.code yX3_findFor cX3_findFor 3 none, Cond.fieldLink RX3 36 "DearVotes$House" "budgets" "[I", Cond.fieldLink RX3 41 "DearVotes$Search" "budget" "I", Cond.constant RX3 45 (-1000000), Cond.fieldLink RX3 46 "DearVotes$Search" "foundGain" "I", Cond.fieldLink RX3 49 "DearVotes$Search" "foundCost" "I", Cond.fieldLink RX3 52 "DearVotes$House" "questions" "I", Cond.fieldLink RX3 59 "DearVotes$House" "worths" "[[I", Cond.methodLink RX3 55 yX1_countWithout, Cond.methodLink RX3 62 yX3_listChoices, Cond.instanceMethod yX3_listChoices, Cond.selects RX3 yX3_listChoices yX3_listChoices, Cond.code yX3_listChoices cX3_listChoices 6 none, Cond.methodLink RX3 79 yX1_gainBy, Cond.methodLink RX3 82 yX3_addChoice, Cond.instanceMethod yX3_addChoice, Cond.selects RX3 yX3_addChoice yX3_addChoice, Cond.code yX3_addChoice cX3_addChoice 5 none]
def wsL_law_r14 : List Cond := [Cond.methodLink RX3 66 yX3_tryFrom, Cond.static yX3_tryFrom, Cond.code yX3_tryFrom cX3_tryFrom 7 none, Cond.methodLink RX3 85 yX3_keepIfBetter, Cond.instanceMethod yX3_keepIfBetter, Cond.selects RX3 yX3_keepIfBetter yX3_keepIfBetter, Cond.code yX3_keepIfBetter cX3_keepIfBetter 3 none, Cond.methodLink RX3 73 arraycopyName, Cond.native arraycopyName, Cond.static arraycopyName, Cond.initialized "java/lang/System", Cond.methodLink RX3 89 yX3_triedIsLess, Cond.instanceMethod yX3_triedIsLess, Cond.selects RX3 yX3_triedIsLess yX3_triedIsLess, Cond.code yX3_triedIsLess cX3_triedIsLess 2 (some .boolean), Cond.methodLink RL 73 yX5_best, Cond.instanceMethod yX5_best, Cond.selects RX5 yX5_best yX5_best, Cond.code yX5_best cX5_best 2 (some .int), Cond.fieldLink RX5 99 "DearVotesModel" "bestGain" "I", Cond.methodLink RX5 113 yX5_find, Cond.instanceMethod yX5_find, Cond.selects RX5 yX5_find yX5_find, Cond.code yX5_find cX5_find 11 none]
def wsL_law_r15 : List Cond := [Cond.fieldLink RX5 95 "DearVotesModel" "hasBest" "Z", Cond.fieldLink RX5 102 "DearVotesModel" "bestCost" "I", Cond.methodLink RX5 105 yX5_end, Cond.instanceMethod yX5_end, Cond.selects RX5 yX5_end yX5_end, Cond.code yX5_end cX5_end 3 none, Cond.methodLink RX5 109 yX5_isBetter, Cond.instanceMethod yX5_isBetter, Cond.selects RX5 yX5_isBetter yX5_isBetter, Cond.code yX5_isBetter cX5_isBetter 4 (some .boolean), Cond.methodLink RL 74 yX4_answer, Cond.instanceMethod yX4_answer, Cond.selects RX4 yX4_answer yX4_answer, Cond.code yX4_answer cX4_answer 3 (some .int), Cond.fieldLink RX4 108 "DearVotes$Search" "found" "[I", Cond.methodLink RL 77 yX5_answer, Cond.instanceMethod yX5_answer, Cond.selects RX5 yX5_answer yX5_answer, Cond.code yX5_answer cX5_answer 3 (some .int), Cond.methodLink RL 78 yX4_take, Cond.instanceMethod yX4_take, Cond.selects RX4 yX4_take yX4_take, Cond.code yX4_take cX4_take 2 (some .int), Cond.methodLink RX4 111 yX3_giveTo]
def wsL_law_r16 : List Cond := [Cond.instanceMethod yX3_giveTo, Cond.selects RX3 yX3_giveTo yX3_giveTo, Cond.code yX3_giveTo cX3_giveTo 2 none, Cond.fieldLink RX3 70 "DearVotes$House" "voices" "[[I", Cond.methodLink RL 81 yX5_take, Cond.instanceMethod yX5_take, Cond.selects RX5 yX5_take yX5_take, Cond.code yX5_take cX5_take 2 (some .int), Cond.methodLink RX5 117 yX5_adopt, Cond.instanceMethod yX5_adopt, Cond.selects RX5 yX5_adopt yX5_adopt, Cond.code yX5_adopt cX5_adopt 3 none, Cond.methodLink RL 82 yX4_play, Cond.instanceMethod yX4_play, Cond.selects RX4 yX4_play yX4_play, Cond.code yX4_play cX4_play 2 (some .int), Cond.methodLink RX4 114 yX2_playAtMost, Cond.instanceMethod yX2_playAtMost, Cond.selects RX2 yX2_playAtMost yX2_playAtMost, Cond.code yX2_playAtMost cX2_playAtMost 4 (some .int), Cond.fieldLink RX2 28 "DearVotes$Rounds" "ringLength" "I", Cond.fieldLink RX2 39 "DearVotes$Rounds" "doneEver" "I", Cond.fieldLink RX2 42 "DearVotes$Rounds" "changesEver" "I", Cond.methodLink RX2 31 yX2_noteVoices]
def wsL_law_r17 : List Cond := [Cond.instanceMethod yX2_noteVoices, Cond.selects RX2 yX2_noteVoices yX2_noteVoices, Cond.code yX2_noteVoices cX2_noteVoices 3 none, Cond.fieldLink RX2 49 "DearVotes$House" "people" "I", Cond.methodLink RX2 73 yX1_voicesInOne, Cond.instanceMethod yX1_voicesInOne, Cond.selects RX1 yX1_voicesInOne yX1_voicesInOne, Cond.code yX1_voicesInOne cX1_voicesInOne 5 (some .long), Cond.constantLong RX1 64 (81), Cond.constantLong RX1 66 (40), Cond.methodLink RX2 35 yX2_doRound, Cond.instanceMethod yX2_doRound, Cond.selects RX2 yX2_doRound yX2_doRound, Cond.code yX2_doRound cX2_doRound 3 (some .int), Cond.fieldLink RX2 54 "DearVotes$House" "present" "[Z", Cond.fieldLink RX2 63 "DearVotes$Search" "foundGain" "I", Cond.methodLink RX2 58 yX3_findFor, Cond.methodLink RX2 66 yX1_gainOf, Cond.methodLink RX2 70 yX3_giveTo, Cond.methodLink RX2 45 yX2_judge, Cond.instanceMethod yX2_judge, Cond.selects RX2 yX2_judge yX2_judge, Cond.code yX2_judge cX2_judge 4 none, Cond.methodLink RX2 77 yX2_isSameTrail]
def wsL_law_r18 : List Cond := [Cond.instanceMethod yX2_isSameTrail, Cond.selects RX2 yX2_isSameTrail yX2_isSameTrail, Cond.code yX2_isSameTrail cX2_isSameTrail 4 (some .boolean), Cond.methodLink RL 85 yX5_play, Cond.instanceMethod yX5_play, Cond.selects RX5 yX5_play yX5_play, Cond.code yX5_play cX5_play 5 (some .int), Cond.fieldLink RX5 120 "DearVotesModel" "ended" "I", Cond.fieldLink RX5 123 "DearVotesModel" "ring" "I", Cond.fieldLink RX5 129 "DearVotesModel" "rounds" "I", Cond.fieldLink RX5 132 "DearVotesModel" "changes" "I", Cond.methodLink RX5 126 yX5_keep, Cond.instanceMethod yX5_keep, Cond.selects RX5 yX5_keep yX5_keep, Cond.code yX5_keep cX5_keep 3 none, Cond.methodLink RX5 135 yX5_isAsBehind, Cond.instanceMethod yX5_isAsBehind, Cond.selects RX5 yX5_isAsBehind yX5_isAsBehind, Cond.code yX5_isAsBehind cX5_isAsBehind 4 (some .boolean), Cond.methodLink RL 86 yX4_ended, Cond.instanceMethod yX4_ended, Cond.selects RX4 yX4_ended yX4_ended, Cond.code yX4_ended cX4_ended 1 (some .int), Cond.fieldLink RX4 117 "DearVotes$Rounds" "ending" "I"]
def wsL_law_r19 : List Cond := [Cond.methodLink RL 89 yX5_ended, Cond.instanceMethod yX5_ended, Cond.selects RX5 yX5_ended yX5_ended, Cond.code yX5_ended cX5_ended 1 (some .int), Cond.methodLink RL 90 yX4_ring, Cond.instanceMethod yX4_ring, Cond.selects RX4 yX4_ring yX4_ring, Cond.code yX4_ring cX4_ring 1 (some .int), Cond.fieldLink RX4 120 "DearVotes$Rounds" "ringLength" "I", Cond.methodLink RL 93 yX5_ring, Cond.instanceMethod yX5_ring, Cond.selects RX5 yX5_ring yX5_ring, Cond.code yX5_ring cX5_ring 1 (some .int), Cond.methodLink RL 94 yX4_gift, Cond.instanceMethod yX4_gift, Cond.selects RX4 yX4_gift yX4_gift, Cond.code yX4_gift cX4_gift 5 (some .int), Cond.constant RX4 126 (1000000), Cond.fieldLink RX4 127 "DearVotes$Fund" "gifts" "[[I", Cond.methodLink RX4 123 yX0_hasProject, Cond.instanceMethod yX0_hasProject, Cond.selects RX0 yX0_hasProject yX0_hasProject, Cond.code yX0_hasProject cX0_hasProject 2 (some .boolean), Cond.fieldLink RX0 27 "DearVotes$Fund" "projects" "I"]
def wsL_law_r20 : List Cond := [Cond.methodLink RL 97 yX5_gift, Cond.instanceMethod yX5_gift, Cond.selects RX5 yX5_gift yX5_gift, Cond.code yX5_gift cX5_gift 5 (some .int), Cond.constant RX5 141 (1000000), Cond.methodLink RX5 138 yX5_isProject, Cond.instanceMethod yX5_isProject, Cond.selects RX5 yX5_isProject yX5_isProject, Cond.code yX5_isProject cX5_isProject 2 (some .boolean), Cond.methodLink RL 98 yX4_bond, Cond.instanceMethod yX4_bond, Cond.selects RX4 yX4_bond yX4_bond, Cond.code yX4_bond cX4_bond 5 (some .int), Cond.fieldLink RX4 130 "DearVotes$Fund" "bonds" "[[I", Cond.methodLink RL 101 yX5_bond, Cond.instanceMethod yX5_bond, Cond.selects RX5 yX5_bond yX5_bond, Cond.code yX5_bond cX5_bond 5 (some .int), Cond.methodLink RL 102 yX4_matched, Cond.instanceMethod yX4_matched, Cond.selects RX4 yX4_matched yX4_matched, Cond.code yX4_matched cX4_matched 3 (some .long), Cond.constantLong RX4 133 (-101), Cond.constantLong RX4 135 (-102)]
def wsL_law_r21 : List Cond := [Cond.methodLink RX4 137 yX0_matchedLow, Cond.instanceMethod yX0_matchedLow, Cond.selects RX0 yX0_matchedLow yX0_matchedLow, Cond.code yX0_matchedLow cX0_matchedLow 6 (some .long), Cond.fieldLink RX0 31 "DearVotes$House" "people" "I", Cond.constantLong RX0 44 (2), Cond.constantLong RX0 46 (256000), Cond.methodLink RX0 36 yX0_fineProduct, Cond.instanceMethod yX0_fineProduct, Cond.selects RX0 yX0_fineProduct yX0_fineProduct, Cond.code yX0_fineProduct cX0_fineProduct 4 (some .long), Cond.constantLong RX0 53 (65536), Cond.methodLink RX0 40 yX0_root, Cond.static yX0_root, Cond.code yX0_root cX0_root 6 (some .long), Cond.constantLong RX0 55 (268435456), Cond.methodLink RX4 141 yX0_matchedHigh, Cond.instanceMethod yX0_matchedHigh, Cond.selects RX0 yX0_matchedHigh yX0_matchedHigh, Cond.code yX0_matchedHigh cX0_matchedHigh 6 (some .long), Cond.methodLink RX0 50 yX0_rootAbove, Cond.static yX0_rootAbove, Cond.code yX0_rootAbove cX0_rootAbove 4 (some .long), Cond.methodLink RL 106 yX5_matched]
def wsL_law_r22 : List Cond := [Cond.instanceMethod yX5_matched, Cond.selects RX5 yX5_matched yX5_matched, Cond.code yX5_matched cX5_matched 3 (some .long), Cond.constantLong RX5 156 (-101), Cond.constantLong RX5 162 (-102), Cond.methodLink RX5 158 yX5_matchedOf, Cond.instanceMethod yX5_matchedOf, Cond.selects RX5 yX5_matchedOf yX5_matchedOf, Cond.code yX5_matchedOf cX5_matchedOf 14 (some .long), Cond.constantLong RX5 142 (65536), Cond.constantLong RX5 144 (1000), Cond.constantLong RX5 150 (2), Cond.constantLong RX5 152 (255999), Cond.constantLong RX5 154 (256000), Cond.methodLink RX5 146 yX5_root, Cond.static yX5_root, Cond.code yX5_root cX5_root 7 (some .long), Cond.methodLink RL 109 yX4_share, Cond.instanceMethod yX4_share, Cond.selects RX4 yX4_share yX4_share, Cond.code yX4_share cX4_share 4 (some .long), Cond.constantLong RX4 144 (1000000000), Cond.methodLink RX4 146 yX0_shareOf, Cond.instanceMethod yX0_shareOf]
def wsL_law_r23 : List Cond := [Cond.selects RX0 yX0_shareOf yX0_shareOf, Cond.code yX0_shareOf cX0_shareOf 14 (some .long), Cond.methodLink RX0 57 yX0_matchedLow, Cond.methodLink RL 113 yX5_share, Cond.instanceMethod yX5_share, Cond.selects RX5 yX5_share yX5_share, Cond.code yX5_share cX5_share 10 (some .long), Cond.constantLong RX5 164 (1000000000), Cond.constantLong RX5 166 (-1), Cond.methodLink RL 114 yX4_damped, Cond.instanceMethod yX4_damped, Cond.selects RX4 yX4_damped yX4_damped, Cond.code yX4_damped cX4_damped 2 (some .long), Cond.methodLink RX4 150 yX0_matchedUndamped, Cond.instanceMethod yX0_matchedUndamped, Cond.selects RX0 yX0_matchedUndamped yX0_matchedUndamped, Cond.code yX0_matchedUndamped cX0_matchedUndamped 6 (some .long), Cond.constantLong RX0 48 (1000), Cond.methodLink RL 118 yX5_damped, Cond.instanceMethod yX5_damped, Cond.selects RX5 yX5_damped yX5_damped, Cond.code yX5_damped cX5_damped 2 (some .long), Cond.methodLink RL 119 yX4_likeness, Cond.instanceMethod yX4_likeness]
def wsL_law_r24 : List Cond := [Cond.selects RX4 yX4_likeness yX4_likeness, Cond.code yX4_likeness cX4_likeness 3 (some .int), Cond.methodLink RX4 153 yX1_likenessOf, Cond.instanceMethod yX1_likenessOf, Cond.selects RX1 yX1_likenessOf yX1_likenessOf, Cond.code yX1_likenessOf cX1_likenessOf 8 (some .int), Cond.constantLong RX1 56 (1000), Cond.methodLink RX1 53 yX1_costOf, Cond.methodLink RL 122 yX5_likeness, Cond.instanceMethod yX5_likeness, Cond.selects RX5 yX5_likeness yX5_likeness, Cond.code yX5_likeness cX5_likeness 3 (some .int), Cond.methodLink RX5 168 yX5_likenessOf, Cond.instanceMethod yX5_likenessOf, Cond.selects RX5 yX5_likenessOf yX5_likenessOf, Cond.code yX5_likenessOf cX5_likenessOf 8 (some .int), Cond.methodLink RL 123 yX4_group, Cond.instanceMethod yX4_group, Cond.selects RX4 yX4_group yX4_group, Cond.code yX4_group cX4_group 3 (some .int), Cond.methodLink RX4 156 yX1_groupOf, Cond.instanceMethod yX1_groupOf, Cond.selects RX1 yX1_groupOf yX1_groupOf, Cond.code yX1_groupOf cX1_groupOf 7 (some .int)]
def wsL_law_r25 : List Cond := [Cond.methodLink RX1 58 yX1_alikeTo, Cond.instanceMethod yX1_alikeTo, Cond.selects RX1 yX1_alikeTo yX1_alikeTo, Cond.code yX1_alikeTo cX1_alikeTo 5 (some .int), Cond.methodLink RX1 61 yX1_likenessOf, Cond.methodLink RL 126 yX5_group, Cond.instanceMethod yX5_group, Cond.selects RX5 yX5_group yX5_group, Cond.code yX5_group cX5_group 7 (some .int), Cond.methodLink RL 127 yX4_count, Cond.instanceMethod yX4_count, Cond.selects RX4 yX4_count yX4_count, Cond.code yX4_count cX4_count 2 (some .int), Cond.fieldLink RX4 163 "DearVotes$Rounds" "doneEver" "I", Cond.fieldLink RX4 166 "DearVotes$Rounds" "changesEver" "I", Cond.methodLink RX4 159 yX1_peoplePresent, Cond.instanceMethod yX1_peoplePresent, Cond.selects RX1 yX1_peoplePresent yX1_peoplePresent, Cond.code yX1_peoplePresent cX1_peoplePresent 3 (some .int), Cond.methodLink RL 130 yX5_count, Cond.instanceMethod yX5_count, Cond.selects RX5 yX5_count yX5_count, Cond.code yX5_count cX5_count 4 (some .int), Cond.methodLink RL 131 yX4_digest]
def wsL_law_r26 : List Cond := [Cond.instanceMethod yX4_digest, Cond.selects RX4 yX4_digest yX4_digest, Cond.code yX4_digest cX4_digest 4 (some .long), Cond.constantLong RX4 169 (103), Cond.constantLong RX4 176 (31), Cond.methodLink RX4 171 yX1_digestPerson, Cond.instanceMethod yX1_digestPerson, Cond.selects RX1 yX1_digestPerson yX1_digestPerson, Cond.code yX1_digestPerson cX1_digestPerson 7 (some .long), Cond.constantLong RX1 68 (31), Cond.methodLink RX4 175 yX0_digestPerson, Cond.instanceMethod yX0_digestPerson, Cond.selects RX0 yX0_digestPerson yX0_digestPerson, Cond.code yX0_digestPerson cX0_digestPerson 7 (some .long), Cond.constantLong RX0 61 (31), Cond.methodLink RL 135 yX5_digest, Cond.instanceMethod yX5_digest, Cond.selects RX5 yX5_digest yX5_digest, Cond.code yX5_digest cX5_digest 3 (some .long), Cond.constantLong RX5 177 (103), Cond.fieldLink RX5 173 "DearVotesModel" "h" "J", Cond.methodLink RX5 179 yX5_mix, Cond.instanceMethod yX5_mix, Cond.selects RX5 yX5_mix yX5_mix]
def wsL_law_r27 : List Cond := [Cond.code yX5_mix cX5_mix 3 none, Cond.constantLong RX5 171 (31)]
def wsL_law : List Cond := (wsL_law_r1 ++ (wsL_law_r2 ++ (wsL_law_r3 ++ (wsL_law_r4 ++ (wsL_law_r5 ++ (wsL_law_r6 ++ (wsL_law_r7 ++ (wsL_law_r8 ++ (wsL_law_r9 ++ (wsL_law_r10 ++ (wsL_law_r11 ++ (wsL_law_r12 ++ (wsL_law_r13 ++ (wsL_law_r14 ++ (wsL_law_r15 ++ (wsL_law_r16 ++ (wsL_law_r17 ++ (wsL_law_r18 ++ (wsL_law_r19 ++ (wsL_law_r20 ++ (wsL_law_r21 ++ (wsL_law_r22 ++ (wsL_law_r23 ++ (wsL_law_r24 ++ (wsL_law_r25 ++ (wsL_law_r26 ++ wsL_law_r27)))))))))))))))))))))))))) ++ wsX40 ++ wsX50 ++ wsX10 ++ wsX30 ++ wsX20 ++ wsX00 ++ ([] : List Cond)
set_option maxRecDepth 20000 in
theorem wsL_law_in : ∀ w ∈ wsL_law, w ∈ lw_tbl := fun w h => (goodIn_p wsL_law [37, 40, 45, 91, 132, 167, 498, 205, 208, 212, 579, 582, 216, 586, 220, 590, 224, 594, 228, 232, 236, 240, 598, 602, 606, 610, 244, 614, 248, 618, 252, 622, 256, 626, 260, 264, 630, 634, 268, 272, 638, 642, 278, 283, 287, 648, 652, 655, 291, 295, 299, 660, 304, 308, 314, 319, 322, 326, 330, 664, 668, 672, 676, 337, 680, 341, 345, 684, 688, 349, 353, 357, 361, 367, 374, 378, 692, 696, 700, 382, 704, 386, 708, 390, 394, 712, 716, 399, 721, 403, 409, 413, 417, 424, 427, 725, 730, 735, 431, 436, 743, 441, 445, 749, 450, 454, 753, 757, 460, 464, 468, 761, 473, 477, 765, 481, 486, 491, 769, 774] (by decide +kernel) (by decide +kernel) w h).1
theorem inlX0 : ∀ w ∈ wsX00, w ∈ wsL_law := fun _ h => List.mem_append_left _ (List.mem_append_right _ h)
theorem inX0 : ∀ w ∈ wsX00, w ∈ lw_tbl := fun w h => wsL_law_in w (inlX0 w h)
theorem inlX1 : ∀ w ∈ wsX10, w ∈ wsL_law := fun _ h => List.mem_append_left _ (List.mem_append_left _ (List.mem_append_left _ (List.mem_append_left _ (List.mem_append_right _ h))))
theorem inX1 : ∀ w ∈ wsX10, w ∈ lw_tbl := fun w h => wsL_law_in w (inlX1 w h)
theorem inlX2 : ∀ w ∈ wsX20, w ∈ wsL_law := fun _ h => List.mem_append_left _ (List.mem_append_left _ (List.mem_append_right _ h))
theorem inX2 : ∀ w ∈ wsX20, w ∈ lw_tbl := fun w h => wsL_law_in w (inlX2 w h)
theorem inlX3 : ∀ w ∈ wsX30, w ∈ wsL_law := fun _ h => List.mem_append_left _ (List.mem_append_left _ (List.mem_append_left _ (List.mem_append_right _ h)))
theorem inX3 : ∀ w ∈ wsX30, w ∈ lw_tbl := fun w h => wsL_law_in w (inlX3 w h)
theorem inlX4 : ∀ w ∈ wsX40, w ∈ wsL_law := fun _ h => List.mem_append_left _ (List.mem_append_left _ (List.mem_append_left _ (List.mem_append_left _ (List.mem_append_left _ (List.mem_append_left _ (List.mem_append_right _ h))))))
theorem inX4 : ∀ w ∈ wsX40, w ∈ lw_tbl := fun w h => wsL_law_in w (inlX4 w h)
theorem inlX5 : ∀ w ∈ wsX50, w ∈ wsL_law := fun _ h => List.mem_append_left _ (List.mem_append_left _ (List.mem_append_left _ (List.mem_append_left _ (List.mem_append_left _ (List.mem_append_right _ h)))))
theorem inX5 : ∀ w ∈ wsX50, w ∈ lw_tbl := fun w h => wsL_law_in w (inlX5 w h)
theorem inJ10 : ∀ w ∈ wsJ100, w ∈ lw_tbl := by decide +kernel
theorem dX0_init_0 : decode cX0_init 0 = .ok (.aload_n 0, 1) := by decide +kernel
theorem dX0_init_1 : decode cX0_init 1 = .ok (.invokespecial 3, 3) := by decide +kernel
theorem dX0_init_4 : decode cX0_init 4 = .ok (.aload_n 0, 1) := by decide +kernel
theorem dX0_init_5 : decode cX0_init 5 = .ok (.bipush 12, 2) := by decide +kernel
theorem dX0_init_7 : decode cX0_init 7 = .ok (.bipush 6, 2) := by decide +kernel
theorem dX0_init_9 : decode cX0_init 9 = .ok (.multianewarray 9 2, 4) := by decide +kernel
theorem dX0_init_13 : decode cX0_init 13 = .ok (.putfield 11, 3) := by decide +kernel
theorem dX0_init_16 : decode cX0_init 16 = .ok (.aload_n 0, 1) := by decide +kernel
theorem dX0_init_17 : decode cX0_init 17 = .ok (.bipush 12, 2) := by decide +kernel
theorem dX0_init_19 : decode cX0_init 19 = .ok (.bipush 12, 2) := by decide +kernel
theorem dX0_init_21 : decode cX0_init 21 = .ok (.multianewarray 9 2, 4) := by decide +kernel
theorem dX0_init_25 : decode cX0_init 25 = .ok (.putfield 16, 3) := by decide +kernel
theorem dX0_init_28 : decode cX0_init 28 = .ok (.aload_n 0, 1) := by decide +kernel
theorem dX0_init_29 : decode cX0_init 29 = .ok (.bipush 6, 2) := by decide +kernel
theorem dX0_init_31 : decode cX0_init 31 = .ok (.newarray .long, 2) := by decide +kernel
theorem dX0_init_33 : decode cX0_init 33 = .ok (.putfield 19, 3) := by decide +kernel
theorem dX0_init_36 : decode cX0_init 36 = .ok (.aload_n 0, 1) := by decide +kernel
theorem dX0_init_37 : decode cX0_init 37 = .ok (.aload_n 1, 1) := by decide +kernel
theorem dX0_init_38 : decode cX0_init 38 = .ok (.putfield 23, 3) := by decide +kernel
theorem dX0_init_41 : decode cX0_init 41 = .ok (.iconst 0, 1) := by decide +kernel
theorem dX0_init_42 : decode cX0_init 42 = .ok (.istore_n 2, 1) := by decide +kernel
theorem dX0_init_43 : decode cX0_init 43 = .ok (.iload_n 2, 1) := by decide +kernel
theorem dX0_init_44 : decode cX0_init 44 = .ok (.bipush 12, 2) := by decide +kernel
theorem dX0_init_46 : decode cX0_init 46 = .ok (.if_icmp .ge 34, 3) := by decide +kernel
theorem dX0_init_49 : decode cX0_init 49 = .ok (.iconst 0, 1) := by decide +kernel
theorem dX0_init_50 : decode cX0_init 50 = .ok (.istore_n 3, 1) := by decide +kernel
theorem dX0_init_51 : decode cX0_init 51 = .ok (.iload_n 3, 1) := by decide +kernel
theorem dX0_init_52 : decode cX0_init 52 = .ok (.bipush 12, 2) := by decide +kernel
theorem dX0_init_54 : decode cX0_init 54 = .ok (.if_icmp .ge 20, 3) := by decide +kernel
theorem dX0_init_57 : decode cX0_init 57 = .ok (.aload_n 0, 1) := by decide +kernel
theorem dX0_init_58 : decode cX0_init 58 = .ok (.getfield 16, 3) := by decide +kernel
theorem dX0_init_61 : decode cX0_init 61 = .ok (.iload_n 2, 1) := by decide +kernel
theorem dX0_init_62 : decode cX0_init 62 = .ok (.aaload, 1) := by decide +kernel
theorem dX0_init_63 : decode cX0_init 63 = .ok (.iload_n 3, 1) := by decide +kernel
theorem dX0_init_64 : decode cX0_init 64 = .ok (.sipush 1000, 3) := by decide +kernel
theorem dX0_init_67 : decode cX0_init 67 = .ok (.iastore, 1) := by decide +kernel
theorem dX0_init_68 : decode cX0_init 68 = .ok (.iinc 3 1, 3) := by decide +kernel
theorem dX0_init_71 : decode cX0_init 71 = .ok (.goto (-20), 3) := by decide +kernel
theorem dX0_init_74 : decode cX0_init 74 = .ok (.iinc 2 1, 3) := by decide +kernel
theorem dX0_init_77 : decode cX0_init 77 = .ok (.goto (-34), 3) := by decide +kernel
theorem dX0_init_80 : decode cX0_init 80 = .ok (.return_, 1) := by decide +kernel
theorem dX0_hasProject_0 : decode cX0_hasProject 0 = .ok (.iload_n 1, 1) := by decide +kernel
theorem dX0_hasProject_1 : decode cX0_hasProject 1 = .ok (.ifCond .lt 15, 3) := by decide +kernel
theorem dX0_hasProject_4 : decode cX0_hasProject 4 = .ok (.iload_n 1, 1) := by decide +kernel
theorem dX0_hasProject_5 : decode cX0_hasProject 5 = .ok (.aload_n 0, 1) := by decide +kernel
theorem dX0_hasProject_6 : decode cX0_hasProject 6 = .ok (.getfield 27, 3) := by decide +kernel
theorem dX0_hasProject_9 : decode cX0_hasProject 9 = .ok (.if_icmp .ge 7, 3) := by decide +kernel
theorem dX0_hasProject_12 : decode cX0_hasProject 12 = .ok (.iconst 1, 1) := by decide +kernel
theorem dX0_hasProject_13 : decode cX0_hasProject 13 = .ok (.goto 4, 3) := by decide +kernel
theorem dX0_hasProject_16 : decode cX0_hasProject 16 = .ok (.iconst 0, 1) := by decide +kernel
theorem dX0_hasProject_17 : decode cX0_hasProject 17 = .ok (.ireturn, 1) := by decide +kernel
set_option maxRecDepth 20000 in
theorem ggX0_matchedLow_X0_fineProduct : GoodIn wsX0_matchedLow wsX0_fineProduct := goodIn_r _ [10, 11, 12, 17, 18, 19, 20, 21] (by decide +kernel) (by decide +kernel)
set_option maxRecDepth 20000 in
theorem gX0_matchedLow_X0_fineProduct : GoodIn wsX0_matchedLow (wsV RX0 36 RX0 yX0_fineProduct wsX0_fineProduct) := goodIn_app (goodIn_of _ (by decide +kernel)) ggX0_matchedLow_X0_fineProduct
set_option maxRecDepth 20000 in
theorem ggX0_matchedLow_X0_root : GoodIn wsX0_matchedLow wsX0_root := goodIn_r _ [15, 16] (by decide +kernel) (by decide +kernel)
set_option maxRecDepth 20000 in
theorem gX0_matchedLow_X0_root : GoodIn wsX0_matchedLow (va_wsS RX0 40 yX0_root wsX0_root) := goodIn_app (goodIn_of _ (by decide +kernel)) ggX0_matchedLow_X0_root
theorem dX0_matchedLow_0 : decode cX0_matchedLow 0 = .ok (.lconst 0, 1) := by decide +kernel
theorem dX0_matchedLow_1 : decode cX0_matchedLow 1 = .ok (.lstore_n 2, 1) := by decide +kernel
theorem dX0_matchedLow_2 : decode cX0_matchedLow 2 = .ok (.iconst 0, 1) := by decide +kernel
theorem dX0_matchedLow_3 : decode cX0_matchedLow 3 = .ok (.istore 4, 2) := by decide +kernel
theorem dX0_matchedLow_5 : decode cX0_matchedLow 5 = .ok (.iload 4, 2) := by decide +kernel
theorem dX0_matchedLow_7 : decode cX0_matchedLow 7 = .ok (.aload_n 0, 1) := by decide +kernel
theorem dX0_matchedLow_8 : decode cX0_matchedLow 8 = .ok (.getfield 23, 3) := by decide +kernel
theorem dX0_matchedLow_11 : decode cX0_matchedLow 11 = .ok (.getfield 31, 3) := by decide +kernel
theorem dX0_matchedLow_14 : decode cX0_matchedLow 14 = .ok (.if_icmp .ge 52, 3) := by decide +kernel
theorem dX0_matchedLow_17 : decode cX0_matchedLow 17 = .ok (.iconst 0, 1) := by decide +kernel
theorem dX0_matchedLow_18 : decode cX0_matchedLow 18 = .ok (.istore 5, 2) := by decide +kernel
theorem dX0_matchedLow_20 : decode cX0_matchedLow 20 = .ok (.iload 5, 2) := by decide +kernel
theorem dX0_matchedLow_22 : decode cX0_matchedLow 22 = .ok (.iload 4, 2) := by decide +kernel
theorem dX0_matchedLow_24 : decode cX0_matchedLow 24 = .ok (.if_icmp .ge 36, 3) := by decide +kernel
theorem dX0_matchedLow_27 : decode cX0_matchedLow 27 = .ok (.lload_n 2, 1) := by decide +kernel
theorem dX0_matchedLow_28 : decode cX0_matchedLow 28 = .ok (.aload_n 0, 1) := by decide +kernel
theorem dX0_matchedLow_29 : decode cX0_matchedLow 29 = .ok (.getfield 16, 3) := by decide +kernel
theorem dX0_matchedLow_32 : decode cX0_matchedLow 32 = .ok (.iload 4, 2) := by decide +kernel
theorem dX0_matchedLow_34 : decode cX0_matchedLow 34 = .ok (.aaload, 1) := by decide +kernel
theorem dX0_matchedLow_35 : decode cX0_matchedLow 35 = .ok (.iload 5, 2) := by decide +kernel
theorem dX0_matchedLow_37 : decode cX0_matchedLow 37 = .ok (.iaload, 1) := by decide +kernel
theorem dX0_matchedLow_38 : decode cX0_matchedLow 38 = .ok (.i2l, 1) := by decide +kernel
theorem dX0_matchedLow_39 : decode cX0_matchedLow 39 = .ok (.aload_n 0, 1) := by decide +kernel
theorem dX0_matchedLow_40 : decode cX0_matchedLow 40 = .ok (.iload 4, 2) := by decide +kernel
theorem dX0_matchedLow_42 : decode cX0_matchedLow 42 = .ok (.iload 5, 2) := by decide +kernel
theorem dX0_matchedLow_44 : decode cX0_matchedLow 44 = .ok (.iload_n 1, 1) := by decide +kernel
theorem dX0_matchedLow_45 : decode cX0_matchedLow 45 = .ok (.invokevirtual 36, 3) := by decide +kernel
theorem dX0_matchedLow_48 : decode cX0_matchedLow 48 = .ok (.invokestatic 40, 3) := by decide +kernel
theorem dX0_matchedLow_51 : decode cX0_matchedLow 51 = .ok (.lmul, 1) := by decide +kernel
theorem dX0_matchedLow_52 : decode cX0_matchedLow 52 = .ok (.ladd, 1) := by decide +kernel
theorem dX0_matchedLow_53 : decode cX0_matchedLow 53 = .ok (.lstore_n 2, 1) := by decide +kernel
theorem dX0_matchedLow_54 : decode cX0_matchedLow 54 = .ok (.iinc 5 1, 3) := by decide +kernel
theorem dX0_matchedLow_57 : decode cX0_matchedLow 57 = .ok (.goto (-37), 3) := by decide +kernel
theorem dX0_matchedLow_60 : decode cX0_matchedLow 60 = .ok (.iinc 4 1, 3) := by decide +kernel
theorem dX0_matchedLow_63 : decode cX0_matchedLow 63 = .ok (.goto (-58), 3) := by decide +kernel
theorem dX0_matchedLow_66 : decode cX0_matchedLow 66 = .ok (.ldc2_w 44, 3) := by decide +kernel
theorem dX0_matchedLow_69 : decode cX0_matchedLow 69 = .ok (.lload_n 2, 1) := by decide +kernel
theorem dX0_matchedLow_70 : decode cX0_matchedLow 70 = .ok (.lmul, 1) := by decide +kernel
theorem dX0_matchedLow_71 : decode cX0_matchedLow 71 = .ok (.ldc2_w 46, 3) := by decide +kernel
theorem dX0_matchedLow_74 : decode cX0_matchedLow 74 = .ok (.ldiv, 1) := by decide +kernel
theorem dX0_matchedLow_75 : decode cX0_matchedLow 75 = .ok (.lreturn, 1) := by decide +kernel
set_option maxRecDepth 20000 in
theorem ggX0_matchedUndamped_X0_fineProduct : GoodIn wsX0_matchedUndamped wsX0_fineProduct := goodIn_r _ [10, 11, 12, 17, 18, 19, 20, 21] (by decide +kernel) (by decide +kernel)
set_option maxRecDepth 20000 in
theorem gX0_matchedUndamped_X0_fineProduct : GoodIn wsX0_matchedUndamped (wsV RX0 36 RX0 yX0_fineProduct wsX0_fineProduct) := goodIn_app (goodIn_of _ (by decide +kernel)) ggX0_matchedUndamped_X0_fineProduct
set_option maxRecDepth 20000 in
theorem ggX0_matchedUndamped_X0_root : GoodIn wsX0_matchedUndamped wsX0_root := goodIn_r _ [15, 16] (by decide +kernel) (by decide +kernel)
set_option maxRecDepth 20000 in
theorem gX0_matchedUndamped_X0_root : GoodIn wsX0_matchedUndamped (va_wsS RX0 40 yX0_root wsX0_root) := goodIn_app (goodIn_of _ (by decide +kernel)) ggX0_matchedUndamped_X0_root
theorem dX0_matchedUndamped_0 : decode cX0_matchedUndamped 0 = .ok (.lconst 0, 1) := by decide +kernel
theorem dX0_matchedUndamped_1 : decode cX0_matchedUndamped 1 = .ok (.lstore_n 2, 1) := by decide +kernel
theorem dX0_matchedUndamped_2 : decode cX0_matchedUndamped 2 = .ok (.iconst 0, 1) := by decide +kernel
theorem dX0_matchedUndamped_3 : decode cX0_matchedUndamped 3 = .ok (.istore 4, 2) := by decide +kernel
theorem dX0_matchedUndamped_5 : decode cX0_matchedUndamped 5 = .ok (.iload 4, 2) := by decide +kernel
theorem dX0_matchedUndamped_7 : decode cX0_matchedUndamped 7 = .ok (.aload_n 0, 1) := by decide +kernel
theorem dX0_matchedUndamped_8 : decode cX0_matchedUndamped 8 = .ok (.getfield 23, 3) := by decide +kernel
theorem dX0_matchedUndamped_11 : decode cX0_matchedUndamped 11 = .ok (.getfield 31, 3) := by decide +kernel
theorem dX0_matchedUndamped_14 : decode cX0_matchedUndamped 14 = .ok (.if_icmp .ge 44, 3) := by decide +kernel
theorem dX0_matchedUndamped_17 : decode cX0_matchedUndamped 17 = .ok (.iconst 0, 1) := by decide +kernel
theorem dX0_matchedUndamped_18 : decode cX0_matchedUndamped 18 = .ok (.istore 5, 2) := by decide +kernel
theorem dX0_matchedUndamped_20 : decode cX0_matchedUndamped 20 = .ok (.iload 5, 2) := by decide +kernel
theorem dX0_matchedUndamped_22 : decode cX0_matchedUndamped 22 = .ok (.iload 4, 2) := by decide +kernel
theorem dX0_matchedUndamped_24 : decode cX0_matchedUndamped 24 = .ok (.if_icmp .ge 28, 3) := by decide +kernel
theorem dX0_matchedUndamped_27 : decode cX0_matchedUndamped 27 = .ok (.lload_n 2, 1) := by decide +kernel
theorem dX0_matchedUndamped_28 : decode cX0_matchedUndamped 28 = .ok (.ldc2_w 48, 3) := by decide +kernel
theorem dX0_matchedUndamped_31 : decode cX0_matchedUndamped 31 = .ok (.aload_n 0, 1) := by decide +kernel
theorem dX0_matchedUndamped_32 : decode cX0_matchedUndamped 32 = .ok (.iload 4, 2) := by decide +kernel
theorem dX0_matchedUndamped_34 : decode cX0_matchedUndamped 34 = .ok (.iload 5, 2) := by decide +kernel
theorem dX0_matchedUndamped_36 : decode cX0_matchedUndamped 36 = .ok (.iload_n 1, 1) := by decide +kernel
theorem dX0_matchedUndamped_37 : decode cX0_matchedUndamped 37 = .ok (.invokevirtual 36, 3) := by decide +kernel
theorem dX0_matchedUndamped_40 : decode cX0_matchedUndamped 40 = .ok (.invokestatic 40, 3) := by decide +kernel
theorem dX0_matchedUndamped_43 : decode cX0_matchedUndamped 43 = .ok (.lmul, 1) := by decide +kernel
theorem dX0_matchedUndamped_44 : decode cX0_matchedUndamped 44 = .ok (.ladd, 1) := by decide +kernel
theorem dX0_matchedUndamped_45 : decode cX0_matchedUndamped 45 = .ok (.lstore_n 2, 1) := by decide +kernel
theorem dX0_matchedUndamped_46 : decode cX0_matchedUndamped 46 = .ok (.iinc 5 1, 3) := by decide +kernel
theorem dX0_matchedUndamped_49 : decode cX0_matchedUndamped 49 = .ok (.goto (-29), 3) := by decide +kernel
theorem dX0_matchedUndamped_52 : decode cX0_matchedUndamped 52 = .ok (.iinc 4 1, 3) := by decide +kernel
theorem dX0_matchedUndamped_55 : decode cX0_matchedUndamped 55 = .ok (.goto (-50), 3) := by decide +kernel
theorem dX0_matchedUndamped_58 : decode cX0_matchedUndamped 58 = .ok (.ldc2_w 44, 3) := by decide +kernel
theorem dX0_matchedUndamped_61 : decode cX0_matchedUndamped 61 = .ok (.lload_n 2, 1) := by decide +kernel
theorem dX0_matchedUndamped_62 : decode cX0_matchedUndamped 62 = .ok (.lmul, 1) := by decide +kernel
theorem dX0_matchedUndamped_63 : decode cX0_matchedUndamped 63 = .ok (.ldc2_w 46, 3) := by decide +kernel
theorem dX0_matchedUndamped_66 : decode cX0_matchedUndamped 66 = .ok (.ldiv, 1) := by decide +kernel
theorem dX0_matchedUndamped_67 : decode cX0_matchedUndamped 67 = .ok (.lreturn, 1) := by decide +kernel
set_option maxRecDepth 20000 in
theorem ggX0_matchedHigh_X0_fineProduct : GoodIn wsX0_matchedHigh wsX0_fineProduct := goodIn_r _ [10, 11, 12, 20, 21, 22, 23, 24] (by decide +kernel) (by decide +kernel)
set_option maxRecDepth 20000 in
theorem gX0_matchedHigh_X0_fineProduct : GoodIn wsX0_matchedHigh (wsV RX0 36 RX0 yX0_fineProduct wsX0_fineProduct) := goodIn_app (goodIn_of _ (by decide +kernel)) ggX0_matchedHigh_X0_fineProduct
set_option maxRecDepth 20000 in
theorem ggX0_matchedHigh_X0_rootAbove : GoodIn wsX0_matchedHigh wsX0_rootAbove := goodIn_r _ [15, 16, 17, 9, 18, 19] (by decide +kernel) (by decide +kernel)
set_option maxRecDepth 20000 in
theorem gX0_matchedHigh_X0_rootAbove : GoodIn wsX0_matchedHigh (va_wsS RX0 50 yX0_rootAbove wsX0_rootAbove) := goodIn_app (goodIn_of _ (by decide +kernel)) ggX0_matchedHigh_X0_rootAbove
theorem dX0_matchedHigh_0 : decode cX0_matchedHigh 0 = .ok (.lconst 0, 1) := by decide +kernel
theorem dX0_matchedHigh_1 : decode cX0_matchedHigh 1 = .ok (.lstore_n 2, 1) := by decide +kernel
theorem dX0_matchedHigh_2 : decode cX0_matchedHigh 2 = .ok (.iconst 0, 1) := by decide +kernel
theorem dX0_matchedHigh_3 : decode cX0_matchedHigh 3 = .ok (.istore 4, 2) := by decide +kernel
theorem dX0_matchedHigh_5 : decode cX0_matchedHigh 5 = .ok (.iload 4, 2) := by decide +kernel
theorem dX0_matchedHigh_7 : decode cX0_matchedHigh 7 = .ok (.aload_n 0, 1) := by decide +kernel
theorem dX0_matchedHigh_8 : decode cX0_matchedHigh 8 = .ok (.getfield 23, 3) := by decide +kernel
theorem dX0_matchedHigh_11 : decode cX0_matchedHigh 11 = .ok (.getfield 31, 3) := by decide +kernel
theorem dX0_matchedHigh_14 : decode cX0_matchedHigh 14 = .ok (.if_icmp .ge 52, 3) := by decide +kernel
theorem dX0_matchedHigh_17 : decode cX0_matchedHigh 17 = .ok (.iconst 0, 1) := by decide +kernel
theorem dX0_matchedHigh_18 : decode cX0_matchedHigh 18 = .ok (.istore 5, 2) := by decide +kernel
theorem dX0_matchedHigh_20 : decode cX0_matchedHigh 20 = .ok (.iload 5, 2) := by decide +kernel
theorem dX0_matchedHigh_22 : decode cX0_matchedHigh 22 = .ok (.iload 4, 2) := by decide +kernel
theorem dX0_matchedHigh_24 : decode cX0_matchedHigh 24 = .ok (.if_icmp .ge 36, 3) := by decide +kernel
theorem dX0_matchedHigh_27 : decode cX0_matchedHigh 27 = .ok (.lload_n 2, 1) := by decide +kernel
theorem dX0_matchedHigh_28 : decode cX0_matchedHigh 28 = .ok (.aload_n 0, 1) := by decide +kernel
theorem dX0_matchedHigh_29 : decode cX0_matchedHigh 29 = .ok (.getfield 16, 3) := by decide +kernel
theorem dX0_matchedHigh_32 : decode cX0_matchedHigh 32 = .ok (.iload 4, 2) := by decide +kernel
theorem dX0_matchedHigh_34 : decode cX0_matchedHigh 34 = .ok (.aaload, 1) := by decide +kernel
theorem dX0_matchedHigh_35 : decode cX0_matchedHigh 35 = .ok (.iload 5, 2) := by decide +kernel
theorem dX0_matchedHigh_37 : decode cX0_matchedHigh 37 = .ok (.iaload, 1) := by decide +kernel
theorem dX0_matchedHigh_38 : decode cX0_matchedHigh 38 = .ok (.i2l, 1) := by decide +kernel
theorem dX0_matchedHigh_39 : decode cX0_matchedHigh 39 = .ok (.aload_n 0, 1) := by decide +kernel
theorem dX0_matchedHigh_40 : decode cX0_matchedHigh 40 = .ok (.iload 4, 2) := by decide +kernel
theorem dX0_matchedHigh_42 : decode cX0_matchedHigh 42 = .ok (.iload 5, 2) := by decide +kernel
theorem dX0_matchedHigh_44 : decode cX0_matchedHigh 44 = .ok (.iload_n 1, 1) := by decide +kernel
theorem dX0_matchedHigh_45 : decode cX0_matchedHigh 45 = .ok (.invokevirtual 36, 3) := by decide +kernel
theorem dX0_matchedHigh_48 : decode cX0_matchedHigh 48 = .ok (.invokestatic 50, 3) := by decide +kernel
theorem dX0_matchedHigh_51 : decode cX0_matchedHigh 51 = .ok (.lmul, 1) := by decide +kernel
theorem dX0_matchedHigh_52 : decode cX0_matchedHigh 52 = .ok (.ladd, 1) := by decide +kernel
theorem dX0_matchedHigh_53 : decode cX0_matchedHigh 53 = .ok (.lstore_n 2, 1) := by decide +kernel
theorem dX0_matchedHigh_54 : decode cX0_matchedHigh 54 = .ok (.iinc 5 1, 3) := by decide +kernel
theorem dX0_matchedHigh_57 : decode cX0_matchedHigh 57 = .ok (.goto (-37), 3) := by decide +kernel
theorem dX0_matchedHigh_60 : decode cX0_matchedHigh 60 = .ok (.iinc 4 1, 3) := by decide +kernel
theorem dX0_matchedHigh_63 : decode cX0_matchedHigh 63 = .ok (.goto (-58), 3) := by decide +kernel
theorem dX0_matchedHigh_66 : decode cX0_matchedHigh 66 = .ok (.ldc2_w 44, 3) := by decide +kernel
theorem dX0_matchedHigh_69 : decode cX0_matchedHigh 69 = .ok (.lload_n 2, 1) := by decide +kernel
theorem dX0_matchedHigh_70 : decode cX0_matchedHigh 70 = .ok (.lmul, 1) := by decide +kernel
theorem dX0_matchedHigh_71 : decode cX0_matchedHigh 71 = .ok (.ldc2_w 46, 3) := by decide +kernel
theorem dX0_matchedHigh_74 : decode cX0_matchedHigh 74 = .ok (.ladd, 1) := by decide +kernel
theorem dX0_matchedHigh_75 : decode cX0_matchedHigh 75 = .ok (.lconst 1, 1) := by decide +kernel
theorem dX0_matchedHigh_76 : decode cX0_matchedHigh 76 = .ok (.lsub, 1) := by decide +kernel
theorem dX0_matchedHigh_77 : decode cX0_matchedHigh 77 = .ok (.ldc2_w 46, 3) := by decide +kernel
theorem dX0_matchedHigh_80 : decode cX0_matchedHigh 80 = .ok (.ldiv, 1) := by decide +kernel
theorem dX0_matchedHigh_81 : decode cX0_matchedHigh 81 = .ok (.lreturn, 1) := by decide +kernel
theorem dX0_fineProduct_0 : decode cX0_fineProduct 0 = .ok (.ldc2_w 53, 3) := by decide +kernel
theorem dX0_fineProduct_3 : decode cX0_fineProduct 3 = .ok (.aload_n 0, 1) := by decide +kernel
theorem dX0_fineProduct_4 : decode cX0_fineProduct 4 = .ok (.getfield 11, 3) := by decide +kernel
theorem dX0_fineProduct_7 : decode cX0_fineProduct 7 = .ok (.iload_n 1, 1) := by decide +kernel
theorem dX0_fineProduct_8 : decode cX0_fineProduct 8 = .ok (.aaload, 1) := by decide +kernel
theorem dX0_fineProduct_9 : decode cX0_fineProduct 9 = .ok (.iload_n 3, 1) := by decide +kernel
theorem dX0_fineProduct_10 : decode cX0_fineProduct 10 = .ok (.iaload, 1) := by decide +kernel
theorem dX0_fineProduct_11 : decode cX0_fineProduct 11 = .ok (.i2l, 1) := by decide +kernel
theorem dX0_fineProduct_12 : decode cX0_fineProduct 12 = .ok (.lmul, 1) := by decide +kernel
theorem dX0_fineProduct_13 : decode cX0_fineProduct 13 = .ok (.aload_n 0, 1) := by decide +kernel
theorem dX0_fineProduct_14 : decode cX0_fineProduct 14 = .ok (.getfield 11, 3) := by decide +kernel
theorem dX0_fineProduct_17 : decode cX0_fineProduct 17 = .ok (.iload_n 2, 1) := by decide +kernel
theorem dX0_fineProduct_18 : decode cX0_fineProduct 18 = .ok (.aaload, 1) := by decide +kernel
theorem dX0_fineProduct_19 : decode cX0_fineProduct 19 = .ok (.iload_n 3, 1) := by decide +kernel
theorem dX0_fineProduct_20 : decode cX0_fineProduct 20 = .ok (.iaload, 1) := by decide +kernel
theorem dX0_fineProduct_21 : decode cX0_fineProduct 21 = .ok (.i2l, 1) := by decide +kernel
theorem dX0_fineProduct_22 : decode cX0_fineProduct 22 = .ok (.lmul, 1) := by decide +kernel
theorem dX0_fineProduct_23 : decode cX0_fineProduct 23 = .ok (.lreturn, 1) := by decide +kernel
theorem dX0_root_0 : decode cX0_root 0 = .ok (.lconst 0, 1) := by decide +kernel
theorem dX0_root_1 : decode cX0_root 1 = .ok (.lstore_n 2, 1) := by decide +kernel
theorem dX0_root_2 : decode cX0_root 2 = .ok (.ldc2_w 55, 3) := by decide +kernel
theorem dX0_root_5 : decode cX0_root 5 = .ok (.lstore 4, 2) := by decide +kernel
theorem dX0_root_7 : decode cX0_root 7 = .ok (.lload 4, 2) := by decide +kernel
theorem dX0_root_9 : decode cX0_root 9 = .ok (.lconst 0, 1) := by decide +kernel
theorem dX0_root_10 : decode cX0_root 10 = .ok (.lcmp, 1) := by decide +kernel
theorem dX0_root_11 : decode cX0_root 11 = .ok (.ifCond .le 31, 3) := by decide +kernel
theorem dX0_root_14 : decode cX0_root 14 = .ok (.lload_n 2, 1) := by decide +kernel
theorem dX0_root_15 : decode cX0_root 15 = .ok (.lload 4, 2) := by decide +kernel
theorem dX0_root_17 : decode cX0_root 17 = .ok (.ladd, 1) := by decide +kernel
theorem dX0_root_18 : decode cX0_root 18 = .ok (.lload_n 2, 1) := by decide +kernel
theorem dX0_root_19 : decode cX0_root 19 = .ok (.lload 4, 2) := by decide +kernel
theorem dX0_root_21 : decode cX0_root 21 = .ok (.ladd, 1) := by decide +kernel
theorem dX0_root_22 : decode cX0_root 22 = .ok (.lmul, 1) := by decide +kernel
theorem dX0_root_23 : decode cX0_root 23 = .ok (.lload_n 0, 1) := by decide +kernel
theorem dX0_root_24 : decode cX0_root 24 = .ok (.lcmp, 1) := by decide +kernel
theorem dX0_root_25 : decode cX0_root 25 = .ok (.ifCond .gt 8, 3) := by decide +kernel
theorem dX0_root_28 : decode cX0_root 28 = .ok (.lload_n 2, 1) := by decide +kernel
theorem dX0_root_29 : decode cX0_root 29 = .ok (.lload 4, 2) := by decide +kernel
theorem dX0_root_31 : decode cX0_root 31 = .ok (.ladd, 1) := by decide +kernel
theorem dX0_root_32 : decode cX0_root 32 = .ok (.lstore_n 2, 1) := by decide +kernel
theorem dX0_root_33 : decode cX0_root 33 = .ok (.lload 4, 2) := by decide +kernel
theorem dX0_root_35 : decode cX0_root 35 = .ok (.iconst 1, 1) := by decide +kernel
theorem dX0_root_36 : decode cX0_root 36 = .ok (.lshr, 1) := by decide +kernel
theorem dX0_root_37 : decode cX0_root 37 = .ok (.lstore 4, 2) := by decide +kernel
theorem dX0_root_39 : decode cX0_root 39 = .ok (.goto (-32), 3) := by decide +kernel
theorem dX0_root_42 : decode cX0_root 42 = .ok (.lload_n 2, 1) := by decide +kernel
theorem dX0_root_43 : decode cX0_root 43 = .ok (.lreturn, 1) := by decide +kernel
set_option maxRecDepth 20000 in
theorem ggX0_rootAbove_X0_root : GoodIn wsX0_rootAbove wsX0_root := goodIn_r _ [4, 5] (by decide +kernel) (by decide +kernel)
set_option maxRecDepth 20000 in
theorem gX0_rootAbove_X0_root : GoodIn wsX0_rootAbove (va_wsS RX0 40 yX0_root wsX0_root) := goodIn_app (goodIn_of _ (by decide +kernel)) ggX0_rootAbove_X0_root
theorem dX0_rootAbove_0 : decode cX0_rootAbove 0 = .ok (.lload_n 0, 1) := by decide +kernel
theorem dX0_rootAbove_1 : decode cX0_rootAbove 1 = .ok (.invokestatic 40, 3) := by decide +kernel
theorem dX0_rootAbove_4 : decode cX0_rootAbove 4 = .ok (.lstore_n 2, 1) := by decide +kernel
theorem dX0_rootAbove_5 : decode cX0_rootAbove 5 = .ok (.lload_n 2, 1) := by decide +kernel
theorem dX0_rootAbove_6 : decode cX0_rootAbove 6 = .ok (.lload_n 2, 1) := by decide +kernel
theorem dX0_rootAbove_7 : decode cX0_rootAbove 7 = .ok (.lmul, 1) := by decide +kernel
theorem dX0_rootAbove_8 : decode cX0_rootAbove 8 = .ok (.lload_n 0, 1) := by decide +kernel
theorem dX0_rootAbove_9 : decode cX0_rootAbove 9 = .ok (.lcmp, 1) := by decide +kernel
theorem dX0_rootAbove_10 : decode cX0_rootAbove 10 = .ok (.ifCond .ne 7, 3) := by decide +kernel
theorem dX0_rootAbove_13 : decode cX0_rootAbove 13 = .ok (.lload_n 2, 1) := by decide +kernel
theorem dX0_rootAbove_14 : decode cX0_rootAbove 14 = .ok (.goto 6, 3) := by decide +kernel
theorem dX0_rootAbove_17 : decode cX0_rootAbove 17 = .ok (.lload_n 2, 1) := by decide +kernel
theorem dX0_rootAbove_18 : decode cX0_rootAbove 18 = .ok (.lconst 1, 1) := by decide +kernel
theorem dX0_rootAbove_19 : decode cX0_rootAbove 19 = .ok (.ladd, 1) := by decide +kernel
theorem dX0_rootAbove_20 : decode cX0_rootAbove 20 = .ok (.lreturn, 1) := by decide +kernel
set_option maxRecDepth 20000 in
theorem ggX0_shareOf_X0_matchedLow : GoodIn wsX0_shareOf wsX0_matchedLow := goodIn_r _ [7, 8, 9, 10, 11, 12, 13, 14, 15, 6, 16, 17, 18, 19, 20, 21, 22, 23, 24, 25, 26, 27, 28, 29, 30, 31, 32, 33, 34] (by decide +kernel) (by decide +kernel)
set_option maxRecDepth 20000 in
theorem gX0_shareOf_X0_matchedLow : GoodIn wsX0_shareOf (wsV RX0 57 RX0 yX0_matchedLow wsX0_matchedLow) := goodIn_app (goodIn_of _ (by decide +kernel)) ggX0_shareOf_X0_matchedLow
theorem dX0_shareOf_0 : decode cX0_shareOf 0 = .ok (.lconst 0, 1) := by decide +kernel
theorem dX0_shareOf_1 : decode cX0_shareOf 1 = .ok (.lstore 4, 2) := by decide +kernel
theorem dX0_shareOf_3 : decode cX0_shareOf 3 = .ok (.iconst 0, 1) := by decide +kernel
theorem dX0_shareOf_4 : decode cX0_shareOf 4 = .ok (.istore 6, 2) := by decide +kernel
theorem dX0_shareOf_6 : decode cX0_shareOf 6 = .ok (.iload 6, 2) := by decide +kernel
theorem dX0_shareOf_8 : decode cX0_shareOf 8 = .ok (.aload_n 0, 1) := by decide +kernel
theorem dX0_shareOf_9 : decode cX0_shareOf 9 = .ok (.getfield 27, 3) := by decide +kernel
theorem dX0_shareOf_12 : decode cX0_shareOf 12 = .ok (.if_icmp .ge 34, 3) := by decide +kernel
theorem dX0_shareOf_15 : decode cX0_shareOf 15 = .ok (.aload_n 0, 1) := by decide +kernel
theorem dX0_shareOf_16 : decode cX0_shareOf 16 = .ok (.getfield 19, 3) := by decide +kernel
theorem dX0_shareOf_19 : decode cX0_shareOf 19 = .ok (.iload 6, 2) := by decide +kernel
theorem dX0_shareOf_21 : decode cX0_shareOf 21 = .ok (.aload_n 0, 1) := by decide +kernel
theorem dX0_shareOf_22 : decode cX0_shareOf 22 = .ok (.iload 6, 2) := by decide +kernel
theorem dX0_shareOf_24 : decode cX0_shareOf 24 = .ok (.invokevirtual 57, 3) := by decide +kernel
theorem dX0_shareOf_27 : decode cX0_shareOf 27 = .ok (.lastore, 1) := by decide +kernel
theorem dX0_shareOf_28 : decode cX0_shareOf 28 = .ok (.lload 4, 2) := by decide +kernel
theorem dX0_shareOf_30 : decode cX0_shareOf 30 = .ok (.aload_n 0, 1) := by decide +kernel
theorem dX0_shareOf_31 : decode cX0_shareOf 31 = .ok (.getfield 19, 3) := by decide +kernel
theorem dX0_shareOf_34 : decode cX0_shareOf 34 = .ok (.iload 6, 2) := by decide +kernel
theorem dX0_shareOf_36 : decode cX0_shareOf 36 = .ok (.laload, 1) := by decide +kernel
theorem dX0_shareOf_37 : decode cX0_shareOf 37 = .ok (.ladd, 1) := by decide +kernel
theorem dX0_shareOf_38 : decode cX0_shareOf 38 = .ok (.lstore 4, 2) := by decide +kernel
theorem dX0_shareOf_40 : decode cX0_shareOf 40 = .ok (.iinc 6 1, 3) := by decide +kernel
theorem dX0_shareOf_43 : decode cX0_shareOf 43 = .ok (.goto (-37), 3) := by decide +kernel
theorem dX0_shareOf_46 : decode cX0_shareOf 46 = .ok (.lload 4, 2) := by decide +kernel
theorem dX0_shareOf_48 : decode cX0_shareOf 48 = .ok (.lconst 0, 1) := by decide +kernel
theorem dX0_shareOf_49 : decode cX0_shareOf 49 = .ok (.lcmp, 1) := by decide +kernel
theorem dX0_shareOf_50 : decode cX0_shareOf 50 = .ok (.ifCond .gt 5, 3) := by decide +kernel
theorem dX0_shareOf_53 : decode cX0_shareOf 53 = .ok (.lconst 0, 1) := by decide +kernel
theorem dX0_shareOf_54 : decode cX0_shareOf 54 = .ok (.lreturn, 1) := by decide +kernel
theorem dX0_shareOf_55 : decode cX0_shareOf 55 = .ok (.lload_n 2, 1) := by decide +kernel
theorem dX0_shareOf_56 : decode cX0_shareOf 56 = .ok (.aload_n 0, 1) := by decide +kernel
theorem dX0_shareOf_57 : decode cX0_shareOf 57 = .ok (.getfield 19, 3) := by decide +kernel
theorem dX0_shareOf_60 : decode cX0_shareOf 60 = .ok (.iload_n 1, 1) := by decide +kernel
theorem dX0_shareOf_61 : decode cX0_shareOf 61 = .ok (.laload, 1) := by decide +kernel
theorem dX0_shareOf_62 : decode cX0_shareOf 62 = .ok (.lmul, 1) := by decide +kernel
theorem dX0_shareOf_63 : decode cX0_shareOf 63 = .ok (.lload 4, 2) := by decide +kernel
theorem dX0_shareOf_65 : decode cX0_shareOf 65 = .ok (.lrem, 1) := by decide +kernel
theorem dX0_shareOf_66 : decode cX0_shareOf 66 = .ok (.lstore 6, 2) := by decide +kernel
theorem dX0_shareOf_68 : decode cX0_shareOf 68 = .ok (.lload_n 2, 1) := by decide +kernel
theorem dX0_shareOf_69 : decode cX0_shareOf 69 = .ok (.lstore 8, 2) := by decide +kernel
theorem dX0_shareOf_71 : decode cX0_shareOf 71 = .ok (.iconst 0, 1) := by decide +kernel
theorem dX0_shareOf_72 : decode cX0_shareOf 72 = .ok (.istore 10, 2) := by decide +kernel
theorem dX0_shareOf_74 : decode cX0_shareOf 74 = .ok (.iconst 0, 1) := by decide +kernel
theorem dX0_shareOf_75 : decode cX0_shareOf 75 = .ok (.istore 11, 2) := by decide +kernel
theorem dX0_shareOf_77 : decode cX0_shareOf 77 = .ok (.iload 11, 2) := by decide +kernel
theorem dX0_shareOf_79 : decode cX0_shareOf 79 = .ok (.aload_n 0, 1) := by decide +kernel
theorem dX0_shareOf_80 : decode cX0_shareOf 80 = .ok (.getfield 27, 3) := by decide +kernel
theorem dX0_shareOf_83 : decode cX0_shareOf 83 = .ok (.if_icmp .ge 65, 3) := by decide +kernel
theorem dX0_shareOf_86 : decode cX0_shareOf 86 = .ok (.lload 8, 2) := by decide +kernel
theorem dX0_shareOf_88 : decode cX0_shareOf 88 = .ok (.lload_n 2, 1) := by decide +kernel
theorem dX0_shareOf_89 : decode cX0_shareOf 89 = .ok (.aload_n 0, 1) := by decide +kernel
theorem dX0_shareOf_90 : decode cX0_shareOf 90 = .ok (.getfield 19, 3) := by decide +kernel
theorem dX0_shareOf_93 : decode cX0_shareOf 93 = .ok (.iload 11, 2) := by decide +kernel
theorem dX0_shareOf_95 : decode cX0_shareOf 95 = .ok (.laload, 1) := by decide +kernel
theorem dX0_shareOf_96 : decode cX0_shareOf 96 = .ok (.lmul, 1) := by decide +kernel
theorem dX0_shareOf_97 : decode cX0_shareOf 97 = .ok (.lload 4, 2) := by decide +kernel
theorem dX0_shareOf_99 : decode cX0_shareOf 99 = .ok (.ldiv, 1) := by decide +kernel
theorem dX0_shareOf_100 : decode cX0_shareOf 100 = .ok (.lsub, 1) := by decide +kernel
theorem dX0_shareOf_101 : decode cX0_shareOf 101 = .ok (.lstore 8, 2) := by decide +kernel
theorem dX0_shareOf_103 : decode cX0_shareOf 103 = .ok (.lload_n 2, 1) := by decide +kernel
theorem dX0_shareOf_104 : decode cX0_shareOf 104 = .ok (.aload_n 0, 1) := by decide +kernel
theorem dX0_shareOf_105 : decode cX0_shareOf 105 = .ok (.getfield 19, 3) := by decide +kernel
theorem dX0_shareOf_108 : decode cX0_shareOf 108 = .ok (.iload 11, 2) := by decide +kernel
theorem dX0_shareOf_110 : decode cX0_shareOf 110 = .ok (.laload, 1) := by decide +kernel
theorem dX0_shareOf_111 : decode cX0_shareOf 111 = .ok (.lmul, 1) := by decide +kernel
theorem dX0_shareOf_112 : decode cX0_shareOf 112 = .ok (.lload 4, 2) := by decide +kernel
theorem dX0_shareOf_114 : decode cX0_shareOf 114 = .ok (.lrem, 1) := by decide +kernel
theorem dX0_shareOf_115 : decode cX0_shareOf 115 = .ok (.lstore 12, 2) := by decide +kernel
theorem dX0_shareOf_117 : decode cX0_shareOf 117 = .ok (.lload 12, 2) := by decide +kernel
theorem dX0_shareOf_119 : decode cX0_shareOf 119 = .ok (.lload 6, 2) := by decide +kernel
theorem dX0_shareOf_121 : decode cX0_shareOf 121 = .ok (.lcmp, 1) := by decide +kernel
theorem dX0_shareOf_122 : decode cX0_shareOf 122 = .ok (.ifCond .gt 17, 3) := by decide +kernel
theorem dX0_shareOf_125 : decode cX0_shareOf 125 = .ok (.lload 12, 2) := by decide +kernel
theorem dX0_shareOf_127 : decode cX0_shareOf 127 = .ok (.lload 6, 2) := by decide +kernel
theorem dX0_shareOf_129 : decode cX0_shareOf 129 = .ok (.lcmp, 1) := by decide +kernel
theorem dX0_shareOf_130 : decode cX0_shareOf 130 = .ok (.ifCond .ne 12, 3) := by decide +kernel
theorem dX0_shareOf_133 : decode cX0_shareOf 133 = .ok (.iload 11, 2) := by decide +kernel
theorem dX0_shareOf_135 : decode cX0_shareOf 135 = .ok (.iload_n 1, 1) := by decide +kernel
theorem dX0_shareOf_136 : decode cX0_shareOf 136 = .ok (.if_icmp .ge 6, 3) := by decide +kernel
theorem dX0_shareOf_139 : decode cX0_shareOf 139 = .ok (.iinc 10 1, 3) := by decide +kernel
theorem dX0_shareOf_142 : decode cX0_shareOf 142 = .ok (.iinc 11 1, 3) := by decide +kernel
theorem dX0_shareOf_145 : decode cX0_shareOf 145 = .ok (.goto (-68), 3) := by decide +kernel
theorem dX0_shareOf_148 : decode cX0_shareOf 148 = .ok (.lload_n 2, 1) := by decide +kernel
theorem dX0_shareOf_149 : decode cX0_shareOf 149 = .ok (.aload_n 0, 1) := by decide +kernel
theorem dX0_shareOf_150 : decode cX0_shareOf 150 = .ok (.getfield 19, 3) := by decide +kernel
theorem dX0_shareOf_153 : decode cX0_shareOf 153 = .ok (.iload_n 1, 1) := by decide +kernel
theorem dX0_shareOf_154 : decode cX0_shareOf 154 = .ok (.laload, 1) := by decide +kernel
theorem dX0_shareOf_155 : decode cX0_shareOf 155 = .ok (.lmul, 1) := by decide +kernel
theorem dX0_shareOf_156 : decode cX0_shareOf 156 = .ok (.lload 4, 2) := by decide +kernel
theorem dX0_shareOf_158 : decode cX0_shareOf 158 = .ok (.ldiv, 1) := by decide +kernel
theorem dX0_shareOf_159 : decode cX0_shareOf 159 = .ok (.lstore 11, 2) := by decide +kernel
theorem dX0_shareOf_161 : decode cX0_shareOf 161 = .ok (.iload 10, 2) := by decide +kernel
theorem dX0_shareOf_163 : decode cX0_shareOf 163 = .ok (.i2l, 1) := by decide +kernel
theorem dX0_shareOf_164 : decode cX0_shareOf 164 = .ok (.lload 8, 2) := by decide +kernel
theorem dX0_shareOf_166 : decode cX0_shareOf 166 = .ok (.lcmp, 1) := by decide +kernel
theorem dX0_shareOf_167 : decode cX0_shareOf 167 = .ok (.ifCond .ge 10, 3) := by decide +kernel
theorem dX0_shareOf_170 : decode cX0_shareOf 170 = .ok (.lload 11, 2) := by decide +kernel
theorem dX0_shareOf_172 : decode cX0_shareOf 172 = .ok (.lconst 1, 1) := by decide +kernel
theorem dX0_shareOf_173 : decode cX0_shareOf 173 = .ok (.ladd, 1) := by decide +kernel
theorem dX0_shareOf_174 : decode cX0_shareOf 174 = .ok (.goto 5, 3) := by decide +kernel
theorem dX0_shareOf_177 : decode cX0_shareOf 177 = .ok (.lload 11, 2) := by decide +kernel
theorem dX0_shareOf_179 : decode cX0_shareOf 179 = .ok (.lreturn, 1) := by decide +kernel
theorem dX0_digestPerson_0 : decode cX0_digestPerson 0 = .ok (.lload_n 1, 1) := by decide +kernel
theorem dX0_digestPerson_1 : decode cX0_digestPerson 1 = .ok (.lstore 4, 2) := by decide +kernel
theorem dX0_digestPerson_3 : decode cX0_digestPerson 3 = .ok (.iconst 0, 1) := by decide +kernel
theorem dX0_digestPerson_4 : decode cX0_digestPerson 4 = .ok (.istore 6, 2) := by decide +kernel
theorem dX0_digestPerson_6 : decode cX0_digestPerson 6 = .ok (.iload 6, 2) := by decide +kernel
theorem dX0_digestPerson_8 : decode cX0_digestPerson 8 = .ok (.aload_n 0, 1) := by decide +kernel
theorem dX0_digestPerson_9 : decode cX0_digestPerson 9 = .ok (.getfield 27, 3) := by decide +kernel
theorem dX0_digestPerson_12 : decode cX0_digestPerson 12 = .ok (.if_icmp .ge 28, 3) := by decide +kernel
theorem dX0_digestPerson_15 : decode cX0_digestPerson 15 = .ok (.ldc2_w 61, 3) := by decide +kernel
theorem dX0_digestPerson_18 : decode cX0_digestPerson 18 = .ok (.lload 4, 2) := by decide +kernel
theorem dX0_digestPerson_20 : decode cX0_digestPerson 20 = .ok (.lmul, 1) := by decide +kernel
theorem dX0_digestPerson_21 : decode cX0_digestPerson 21 = .ok (.aload_n 0, 1) := by decide +kernel
theorem dX0_digestPerson_22 : decode cX0_digestPerson 22 = .ok (.getfield 11, 3) := by decide +kernel
theorem dX0_digestPerson_25 : decode cX0_digestPerson 25 = .ok (.iload_n 3, 1) := by decide +kernel
theorem dX0_digestPerson_26 : decode cX0_digestPerson 26 = .ok (.aaload, 1) := by decide +kernel
theorem dX0_digestPerson_27 : decode cX0_digestPerson 27 = .ok (.iload 6, 2) := by decide +kernel
theorem dX0_digestPerson_29 : decode cX0_digestPerson 29 = .ok (.iaload, 1) := by decide +kernel
theorem dX0_digestPerson_30 : decode cX0_digestPerson 30 = .ok (.i2l, 1) := by decide +kernel
theorem dX0_digestPerson_31 : decode cX0_digestPerson 31 = .ok (.ladd, 1) := by decide +kernel
theorem dX0_digestPerson_32 : decode cX0_digestPerson 32 = .ok (.lstore 4, 2) := by decide +kernel
theorem dX0_digestPerson_34 : decode cX0_digestPerson 34 = .ok (.iinc 6 1, 3) := by decide +kernel
theorem dX0_digestPerson_37 : decode cX0_digestPerson 37 = .ok (.goto (-31), 3) := by decide +kernel
theorem dX0_digestPerson_40 : decode cX0_digestPerson 40 = .ok (.iconst 0, 1) := by decide +kernel
theorem dX0_digestPerson_41 : decode cX0_digestPerson 41 = .ok (.istore 6, 2) := by decide +kernel
theorem dX0_digestPerson_43 : decode cX0_digestPerson 43 = .ok (.iload 6, 2) := by decide +kernel
theorem dX0_digestPerson_45 : decode cX0_digestPerson 45 = .ok (.iload_n 3, 1) := by decide +kernel
theorem dX0_digestPerson_46 : decode cX0_digestPerson 46 = .ok (.if_icmp .ge 28, 3) := by decide +kernel
theorem dX0_digestPerson_49 : decode cX0_digestPerson 49 = .ok (.ldc2_w 61, 3) := by decide +kernel
theorem dX0_digestPerson_52 : decode cX0_digestPerson 52 = .ok (.lload 4, 2) := by decide +kernel
theorem dX0_digestPerson_54 : decode cX0_digestPerson 54 = .ok (.lmul, 1) := by decide +kernel
theorem dX0_digestPerson_55 : decode cX0_digestPerson 55 = .ok (.aload_n 0, 1) := by decide +kernel
theorem dX0_digestPerson_56 : decode cX0_digestPerson 56 = .ok (.getfield 16, 3) := by decide +kernel
theorem dX0_digestPerson_59 : decode cX0_digestPerson 59 = .ok (.iload_n 3, 1) := by decide +kernel
theorem dX0_digestPerson_60 : decode cX0_digestPerson 60 = .ok (.aaload, 1) := by decide +kernel
theorem dX0_digestPerson_61 : decode cX0_digestPerson 61 = .ok (.iload 6, 2) := by decide +kernel
theorem dX0_digestPerson_63 : decode cX0_digestPerson 63 = .ok (.iaload, 1) := by decide +kernel
theorem dX0_digestPerson_64 : decode cX0_digestPerson 64 = .ok (.i2l, 1) := by decide +kernel
theorem dX0_digestPerson_65 : decode cX0_digestPerson 65 = .ok (.ladd, 1) := by decide +kernel
theorem dX0_digestPerson_66 : decode cX0_digestPerson 66 = .ok (.lstore 4, 2) := by decide +kernel
theorem dX0_digestPerson_68 : decode cX0_digestPerson 68 = .ok (.iinc 6 1, 3) := by decide +kernel
theorem dX0_digestPerson_71 : decode cX0_digestPerson 71 = .ok (.goto (-28), 3) := by decide +kernel
theorem dX0_digestPerson_74 : decode cX0_digestPerson 74 = .ok (.lload 4, 2) := by decide +kernel
theorem dX0_digestPerson_76 : decode cX0_digestPerson 76 = .ok (.lreturn, 1) := by decide +kernel
theorem dX1_init_0 : decode cX1_init 0 = .ok (.aload_n 0, 1) := by decide +kernel
theorem dX1_init_1 : decode cX1_init 1 = .ok (.invokespecial 3, 3) := by decide +kernel
theorem dX1_init_4 : decode cX1_init 4 = .ok (.aload_n 0, 1) := by decide +kernel
theorem dX1_init_5 : decode cX1_init 5 = .ok (.bipush 12, 2) := by decide +kernel
theorem dX1_init_7 : decode cX1_init 7 = .ok (.newarray .int, 2) := by decide +kernel
theorem dX1_init_9 : decode cX1_init 9 = .ok (.putfield 9, 3) := by decide +kernel
theorem dX1_init_12 : decode cX1_init 12 = .ok (.aload_n 0, 1) := by decide +kernel
theorem dX1_init_13 : decode cX1_init 13 = .ok (.bipush 12, 2) := by decide +kernel
theorem dX1_init_15 : decode cX1_init 15 = .ok (.newarray .boolean, 2) := by decide +kernel
theorem dX1_init_17 : decode cX1_init 17 = .ok (.putfield 15, 3) := by decide +kernel
theorem dX1_init_20 : decode cX1_init 20 = .ok (.aload_n 0, 1) := by decide +kernel
theorem dX1_init_21 : decode cX1_init 21 = .ok (.bipush 12, 2) := by decide +kernel
theorem dX1_init_23 : decode cX1_init 23 = .ok (.bipush 6, 2) := by decide +kernel
theorem dX1_init_25 : decode cX1_init 25 = .ok (.multianewarray 19 2, 4) := by decide +kernel
theorem dX1_init_29 : decode cX1_init 29 = .ok (.putfield 21, 3) := by decide +kernel
theorem dX1_init_32 : decode cX1_init 32 = .ok (.aload_n 0, 1) := by decide +kernel
theorem dX1_init_33 : decode cX1_init 33 = .ok (.bipush 12, 2) := by decide +kernel
theorem dX1_init_35 : decode cX1_init 35 = .ok (.bipush 6, 2) := by decide +kernel
theorem dX1_init_37 : decode cX1_init 37 = .ok (.multianewarray 19 2, 4) := by decide +kernel
theorem dX1_init_41 : decode cX1_init 41 = .ok (.putfield 24, 3) := by decide +kernel
theorem dX1_init_44 : decode cX1_init 44 = .ok (.return_, 1) := by decide +kernel
theorem dX1_hasPerson_0 : decode cX1_hasPerson 0 = .ok (.iload_n 1, 1) := by decide +kernel
theorem dX1_hasPerson_1 : decode cX1_hasPerson 1 = .ok (.ifCond .lt 15, 3) := by decide +kernel
theorem dX1_hasPerson_4 : decode cX1_hasPerson 4 = .ok (.iload_n 1, 1) := by decide +kernel
theorem dX1_hasPerson_5 : decode cX1_hasPerson 5 = .ok (.aload_n 0, 1) := by decide +kernel
theorem dX1_hasPerson_6 : decode cX1_hasPerson 6 = .ok (.getfield 27, 3) := by decide +kernel
theorem dX1_hasPerson_9 : decode cX1_hasPerson 9 = .ok (.if_icmp .ge 7, 3) := by decide +kernel
theorem dX1_hasPerson_12 : decode cX1_hasPerson 12 = .ok (.iconst 1, 1) := by decide +kernel
theorem dX1_hasPerson_13 : decode cX1_hasPerson 13 = .ok (.goto 4, 3) := by decide +kernel
theorem dX1_hasPerson_16 : decode cX1_hasPerson 16 = .ok (.iconst 0, 1) := by decide +kernel
theorem dX1_hasPerson_17 : decode cX1_hasPerson 17 = .ok (.ireturn, 1) := by decide +kernel
theorem dX1_hasQuestion_0 : decode cX1_hasQuestion 0 = .ok (.iload_n 1, 1) := by decide +kernel
theorem dX1_hasQuestion_1 : decode cX1_hasQuestion 1 = .ok (.ifCond .lt 15, 3) := by decide +kernel
theorem dX1_hasQuestion_4 : decode cX1_hasQuestion 4 = .ok (.iload_n 1, 1) := by decide +kernel
theorem dX1_hasQuestion_5 : decode cX1_hasQuestion 5 = .ok (.aload_n 0, 1) := by decide +kernel
theorem dX1_hasQuestion_6 : decode cX1_hasQuestion 6 = .ok (.getfield 31, 3) := by decide +kernel
theorem dX1_hasQuestion_9 : decode cX1_hasQuestion 9 = .ok (.if_icmp .ge 7, 3) := by decide +kernel
theorem dX1_hasQuestion_12 : decode cX1_hasQuestion 12 = .ok (.iconst 1, 1) := by decide +kernel
theorem dX1_hasQuestion_13 : decode cX1_hasQuestion 13 = .ok (.goto 4, 3) := by decide +kernel
theorem dX1_hasQuestion_16 : decode cX1_hasQuestion 16 = .ok (.iconst 0, 1) := by decide +kernel
theorem dX1_hasQuestion_17 : decode cX1_hasQuestion 17 = .ok (.ireturn, 1) := by decide +kernel
theorem dX1_addPerson_0 : decode cX1_addPerson 0 = .ok (.aload_n 0, 1) := by decide +kernel
theorem dX1_addPerson_1 : decode cX1_addPerson 1 = .ok (.getfield 9, 3) := by decide +kernel
theorem dX1_addPerson_4 : decode cX1_addPerson 4 = .ok (.aload_n 0, 1) := by decide +kernel
theorem dX1_addPerson_5 : decode cX1_addPerson 5 = .ok (.getfield 27, 3) := by decide +kernel
theorem dX1_addPerson_8 : decode cX1_addPerson 8 = .ok (.iload_n 1, 1) := by decide +kernel
theorem dX1_addPerson_9 : decode cX1_addPerson 9 = .ok (.iastore, 1) := by decide +kernel
theorem dX1_addPerson_10 : decode cX1_addPerson 10 = .ok (.aload_n 0, 1) := by decide +kernel
theorem dX1_addPerson_11 : decode cX1_addPerson 11 = .ok (.getfield 15, 3) := by decide +kernel
theorem dX1_addPerson_14 : decode cX1_addPerson 14 = .ok (.aload_n 0, 1) := by decide +kernel
theorem dX1_addPerson_15 : decode cX1_addPerson 15 = .ok (.getfield 27, 3) := by decide +kernel
theorem dX1_addPerson_18 : decode cX1_addPerson 18 = .ok (.iconst 1, 1) := by decide +kernel
theorem dX1_addPerson_19 : decode cX1_addPerson 19 = .ok (.bastore, 1) := by decide +kernel
theorem dX1_addPerson_20 : decode cX1_addPerson 20 = .ok (.aload_n 0, 1) := by decide +kernel
theorem dX1_addPerson_21 : decode cX1_addPerson 21 = .ok (.dup, 1) := by decide +kernel
theorem dX1_addPerson_22 : decode cX1_addPerson 22 = .ok (.getfield 27, 3) := by decide +kernel
theorem dX1_addPerson_25 : decode cX1_addPerson 25 = .ok (.iconst 1, 1) := by decide +kernel
theorem dX1_addPerson_26 : decode cX1_addPerson 26 = .ok (.iadd, 1) := by decide +kernel
theorem dX1_addPerson_27 : decode cX1_addPerson 27 = .ok (.putfield 27, 3) := by decide +kernel
theorem dX1_addPerson_30 : decode cX1_addPerson 30 = .ok (.aload_n 0, 1) := by decide +kernel
theorem dX1_addPerson_31 : decode cX1_addPerson 31 = .ok (.getfield 27, 3) := by decide +kernel
theorem dX1_addPerson_34 : decode cX1_addPerson 34 = .ok (.iconst 1, 1) := by decide +kernel
theorem dX1_addPerson_35 : decode cX1_addPerson 35 = .ok (.isub, 1) := by decide +kernel
theorem dX1_addPerson_36 : decode cX1_addPerson 36 = .ok (.ireturn, 1) := by decide +kernel
theorem dX1_peoplePresent_0 : decode cX1_peoplePresent 0 = .ok (.iconst 0, 1) := by decide +kernel
theorem dX1_peoplePresent_1 : decode cX1_peoplePresent 1 = .ok (.istore_n 1, 1) := by decide +kernel
theorem dX1_peoplePresent_2 : decode cX1_peoplePresent 2 = .ok (.iconst 0, 1) := by decide +kernel
theorem dX1_peoplePresent_3 : decode cX1_peoplePresent 3 = .ok (.istore_n 2, 1) := by decide +kernel
theorem dX1_peoplePresent_4 : decode cX1_peoplePresent 4 = .ok (.iload_n 2, 1) := by decide +kernel
theorem dX1_peoplePresent_5 : decode cX1_peoplePresent 5 = .ok (.aload_n 0, 1) := by decide +kernel
theorem dX1_peoplePresent_6 : decode cX1_peoplePresent 6 = .ok (.getfield 27, 3) := by decide +kernel
theorem dX1_peoplePresent_9 : decode cX1_peoplePresent 9 = .ok (.if_icmp .ge 21, 3) := by decide +kernel
theorem dX1_peoplePresent_12 : decode cX1_peoplePresent 12 = .ok (.aload_n 0, 1) := by decide +kernel
theorem dX1_peoplePresent_13 : decode cX1_peoplePresent 13 = .ok (.getfield 15, 3) := by decide +kernel
theorem dX1_peoplePresent_16 : decode cX1_peoplePresent 16 = .ok (.iload_n 2, 1) := by decide +kernel
theorem dX1_peoplePresent_17 : decode cX1_peoplePresent 17 = .ok (.baload, 1) := by decide +kernel
theorem dX1_peoplePresent_18 : decode cX1_peoplePresent 18 = .ok (.ifCond .eq 6, 3) := by decide +kernel
theorem dX1_peoplePresent_21 : decode cX1_peoplePresent 21 = .ok (.iinc 1 1, 3) := by decide +kernel
theorem dX1_peoplePresent_24 : decode cX1_peoplePresent 24 = .ok (.iinc 2 1, 3) := by decide +kernel
theorem dX1_peoplePresent_27 : decode cX1_peoplePresent 27 = .ok (.goto (-23), 3) := by decide +kernel
theorem dX1_peoplePresent_30 : decode cX1_peoplePresent 30 = .ok (.iload_n 1, 1) := by decide +kernel
theorem dX1_peoplePresent_31 : decode cX1_peoplePresent 31 = .ok (.ireturn, 1) := by decide +kernel
theorem dX1_costOf_0 : decode cX1_costOf 0 = .ok (.iconst 0, 1) := by decide +kernel
theorem dX1_costOf_1 : decode cX1_costOf 1 = .ok (.istore_n 2, 1) := by decide +kernel
theorem dX1_costOf_2 : decode cX1_costOf 2 = .ok (.iconst 0, 1) := by decide +kernel
theorem dX1_costOf_3 : decode cX1_costOf 3 = .ok (.istore_n 3, 1) := by decide +kernel
theorem dX1_costOf_4 : decode cX1_costOf 4 = .ok (.iload_n 3, 1) := by decide +kernel
theorem dX1_costOf_5 : decode cX1_costOf 5 = .ok (.aload_n 0, 1) := by decide +kernel
theorem dX1_costOf_6 : decode cX1_costOf 6 = .ok (.getfield 31, 3) := by decide +kernel
theorem dX1_costOf_9 : decode cX1_costOf 9 = .ok (.if_icmp .ge 29, 3) := by decide +kernel
theorem dX1_costOf_12 : decode cX1_costOf 12 = .ok (.iload_n 2, 1) := by decide +kernel
theorem dX1_costOf_13 : decode cX1_costOf 13 = .ok (.aload_n 0, 1) := by decide +kernel
theorem dX1_costOf_14 : decode cX1_costOf 14 = .ok (.getfield 21, 3) := by decide +kernel
theorem dX1_costOf_17 : decode cX1_costOf 17 = .ok (.iload_n 1, 1) := by decide +kernel
theorem dX1_costOf_18 : decode cX1_costOf 18 = .ok (.aaload, 1) := by decide +kernel
theorem dX1_costOf_19 : decode cX1_costOf 19 = .ok (.iload_n 3, 1) := by decide +kernel
theorem dX1_costOf_20 : decode cX1_costOf 20 = .ok (.iaload, 1) := by decide +kernel
theorem dX1_costOf_21 : decode cX1_costOf 21 = .ok (.aload_n 0, 1) := by decide +kernel
theorem dX1_costOf_22 : decode cX1_costOf 22 = .ok (.getfield 21, 3) := by decide +kernel
theorem dX1_costOf_25 : decode cX1_costOf 25 = .ok (.iload_n 1, 1) := by decide +kernel
theorem dX1_costOf_26 : decode cX1_costOf 26 = .ok (.aaload, 1) := by decide +kernel
theorem dX1_costOf_27 : decode cX1_costOf 27 = .ok (.iload_n 3, 1) := by decide +kernel
theorem dX1_costOf_28 : decode cX1_costOf 28 = .ok (.iaload, 1) := by decide +kernel
theorem dX1_costOf_29 : decode cX1_costOf 29 = .ok (.imul, 1) := by decide +kernel
theorem dX1_costOf_30 : decode cX1_costOf 30 = .ok (.iadd, 1) := by decide +kernel
theorem dX1_costOf_31 : decode cX1_costOf 31 = .ok (.istore_n 2, 1) := by decide +kernel
theorem dX1_costOf_32 : decode cX1_costOf 32 = .ok (.iinc 3 1, 3) := by decide +kernel
theorem dX1_costOf_35 : decode cX1_costOf 35 = .ok (.goto (-31), 3) := by decide +kernel
theorem dX1_costOf_38 : decode cX1_costOf 38 = .ok (.iload_n 2, 1) := by decide +kernel
theorem dX1_costOf_39 : decode cX1_costOf 39 = .ok (.ireturn, 1) := by decide +kernel
theorem dX1_countOf_0 : decode cX1_countOf 0 = .ok (.iconst 0, 1) := by decide +kernel
theorem dX1_countOf_1 : decode cX1_countOf 1 = .ok (.istore_n 2, 1) := by decide +kernel
theorem dX1_countOf_2 : decode cX1_countOf 2 = .ok (.iconst 0, 1) := by decide +kernel
theorem dX1_countOf_3 : decode cX1_countOf 3 = .ok (.istore_n 3, 1) := by decide +kernel
theorem dX1_countOf_4 : decode cX1_countOf 4 = .ok (.iload_n 3, 1) := by decide +kernel
theorem dX1_countOf_5 : decode cX1_countOf 5 = .ok (.aload_n 0, 1) := by decide +kernel
theorem dX1_countOf_6 : decode cX1_countOf 6 = .ok (.getfield 27, 3) := by decide +kernel
theorem dX1_countOf_9 : decode cX1_countOf 9 = .ok (.if_icmp .ge 29, 3) := by decide +kernel
theorem dX1_countOf_12 : decode cX1_countOf 12 = .ok (.aload_n 0, 1) := by decide +kernel
theorem dX1_countOf_13 : decode cX1_countOf 13 = .ok (.getfield 15, 3) := by decide +kernel
theorem dX1_countOf_16 : decode cX1_countOf 16 = .ok (.iload_n 3, 1) := by decide +kernel
theorem dX1_countOf_17 : decode cX1_countOf 17 = .ok (.baload, 1) := by decide +kernel
theorem dX1_countOf_18 : decode cX1_countOf 18 = .ok (.ifCond .eq 14, 3) := by decide +kernel
theorem dX1_countOf_21 : decode cX1_countOf 21 = .ok (.iload_n 2, 1) := by decide +kernel
theorem dX1_countOf_22 : decode cX1_countOf 22 = .ok (.aload_n 0, 1) := by decide +kernel
theorem dX1_countOf_23 : decode cX1_countOf 23 = .ok (.getfield 21, 3) := by decide +kernel
theorem dX1_countOf_26 : decode cX1_countOf 26 = .ok (.iload_n 3, 1) := by decide +kernel
theorem dX1_countOf_27 : decode cX1_countOf 27 = .ok (.aaload, 1) := by decide +kernel
theorem dX1_countOf_28 : decode cX1_countOf 28 = .ok (.iload_n 1, 1) := by decide +kernel
theorem dX1_countOf_29 : decode cX1_countOf 29 = .ok (.iaload, 1) := by decide +kernel
theorem dX1_countOf_30 : decode cX1_countOf 30 = .ok (.iadd, 1) := by decide +kernel
theorem dX1_countOf_31 : decode cX1_countOf 31 = .ok (.istore_n 2, 1) := by decide +kernel
theorem dX1_countOf_32 : decode cX1_countOf 32 = .ok (.iinc 3 1, 3) := by decide +kernel
theorem dX1_countOf_35 : decode cX1_countOf 35 = .ok (.goto (-31), 3) := by decide +kernel
theorem dX1_countOf_38 : decode cX1_countOf 38 = .ok (.iload_n 2, 1) := by decide +kernel
theorem dX1_countOf_39 : decode cX1_countOf 39 = .ok (.ireturn, 1) := by decide +kernel
set_option maxRecDepth 20000 in
theorem ggX1_countWithout_X1_countOf : GoodIn wsX1_countWithout wsX1_countOf := goodIn_r _ [7, 8, 1, 2, 9, 10, 11, 12, 13, 14, 15] (by decide +kernel) (by decide +kernel)
set_option maxRecDepth 20000 in
theorem gX1_countWithout_X1_countOf : GoodIn wsX1_countWithout (wsV RX1 34 RX1 yX1_countOf wsX1_countOf) := goodIn_app (goodIn_of _ (by decide +kernel)) ggX1_countWithout_X1_countOf
theorem dX1_countWithout_0 : decode cX1_countWithout 0 = .ok (.aload_n 0, 1) := by decide +kernel
theorem dX1_countWithout_1 : decode cX1_countWithout 1 = .ok (.iload_n 2, 1) := by decide +kernel
theorem dX1_countWithout_2 : decode cX1_countWithout 2 = .ok (.invokevirtual 34, 3) := by decide +kernel
theorem dX1_countWithout_5 : decode cX1_countWithout 5 = .ok (.istore_n 3, 1) := by decide +kernel
theorem dX1_countWithout_6 : decode cX1_countWithout 6 = .ok (.aload_n 0, 1) := by decide +kernel
theorem dX1_countWithout_7 : decode cX1_countWithout 7 = .ok (.getfield 15, 3) := by decide +kernel
theorem dX1_countWithout_10 : decode cX1_countWithout 10 = .ok (.iload_n 1, 1) := by decide +kernel
theorem dX1_countWithout_11 : decode cX1_countWithout 11 = .ok (.baload, 1) := by decide +kernel
theorem dX1_countWithout_12 : decode cX1_countWithout 12 = .ok (.ifCond .eq 16, 3) := by decide +kernel
theorem dX1_countWithout_15 : decode cX1_countWithout 15 = .ok (.iload_n 3, 1) := by decide +kernel
theorem dX1_countWithout_16 : decode cX1_countWithout 16 = .ok (.aload_n 0, 1) := by decide +kernel
theorem dX1_countWithout_17 : decode cX1_countWithout 17 = .ok (.getfield 21, 3) := by decide +kernel
theorem dX1_countWithout_20 : decode cX1_countWithout 20 = .ok (.iload_n 1, 1) := by decide +kernel
theorem dX1_countWithout_21 : decode cX1_countWithout 21 = .ok (.aaload, 1) := by decide +kernel
theorem dX1_countWithout_22 : decode cX1_countWithout 22 = .ok (.iload_n 2, 1) := by decide +kernel
theorem dX1_countWithout_23 : decode cX1_countWithout 23 = .ok (.iaload, 1) := by decide +kernel
theorem dX1_countWithout_24 : decode cX1_countWithout 24 = .ok (.isub, 1) := by decide +kernel
theorem dX1_countWithout_25 : decode cX1_countWithout 25 = .ok (.goto 4, 3) := by decide +kernel
theorem dX1_countWithout_28 : decode cX1_countWithout 28 = .ok (.iload_n 3, 1) := by decide +kernel
theorem dX1_countWithout_29 : decode cX1_countWithout 29 = .ok (.ireturn, 1) := by decide +kernel
theorem dX1_resultOf_0 : decode cX1_resultOf 0 = .ok (.iload_n 2, 1) := by decide +kernel
theorem dX1_resultOf_1 : decode cX1_resultOf 1 = .ok (.ifCond .eq 13, 3) := by decide +kernel
theorem dX1_resultOf_4 : decode cX1_resultOf 4 = .ok (.iload_n 2, 1) := by decide +kernel
theorem dX1_resultOf_5 : decode cX1_resultOf 5 = .ok (.ifCond .le 7, 3) := by decide +kernel
theorem dX1_resultOf_8 : decode cX1_resultOf 8 = .ok (.iconst 1, 1) := by decide +kernel
theorem dX1_resultOf_9 : decode cX1_resultOf 9 = .ok (.goto 4, 3) := by decide +kernel
theorem dX1_resultOf_12 : decode cX1_resultOf 12 = .ok (.iconst (-1), 1) := by decide +kernel
theorem dX1_resultOf_13 : decode cX1_resultOf 13 = .ok (.ireturn, 1) := by decide +kernel
theorem dX1_resultOf_14 : decode cX1_resultOf 14 = .ok (.aload_n 0, 1) := by decide +kernel
theorem dX1_resultOf_15 : decode cX1_resultOf 15 = .ok (.getfield 38, 3) := by decide +kernel
theorem dX1_resultOf_18 : decode cX1_resultOf 18 = .ok (.istore_n 3, 1) := by decide +kernel
theorem dX1_resultOf_19 : decode cX1_resultOf 19 = .ok (.iconst 0, 1) := by decide +kernel
theorem dX1_resultOf_20 : decode cX1_resultOf 20 = .ok (.istore 4, 2) := by decide +kernel
theorem dX1_resultOf_22 : decode cX1_resultOf 22 = .ok (.iload 4, 2) := by decide +kernel
theorem dX1_resultOf_24 : decode cX1_resultOf 24 = .ok (.iload_n 1, 1) := by decide +kernel
theorem dX1_resultOf_25 : decode cX1_resultOf 25 = .ok (.if_icmp .gt 17, 3) := by decide +kernel
theorem dX1_resultOf_28 : decode cX1_resultOf 28 = .ok (.iload_n 3, 1) := by decide +kernel
theorem dX1_resultOf_29 : decode cX1_resultOf 29 = .ok (.ldc 41, 2) := by decide +kernel
theorem dX1_resultOf_31 : decode cX1_resultOf 31 = .ok (.imul, 1) := by decide +kernel
theorem dX1_resultOf_32 : decode cX1_resultOf 32 = .ok (.ldc 42, 2) := by decide +kernel
theorem dX1_resultOf_34 : decode cX1_resultOf 34 = .ok (.iadd, 1) := by decide +kernel
theorem dX1_resultOf_35 : decode cX1_resultOf 35 = .ok (.istore_n 3, 1) := by decide +kernel
theorem dX1_resultOf_36 : decode cX1_resultOf 36 = .ok (.iinc 4 1, 3) := by decide +kernel
theorem dX1_resultOf_39 : decode cX1_resultOf 39 = .ok (.goto (-17), 3) := by decide +kernel
theorem dX1_resultOf_42 : decode cX1_resultOf 42 = .ok (.iload_n 3, 1) := by decide +kernel
theorem dX1_resultOf_43 : decode cX1_resultOf 43 = .ok (.bipush 20, 2) := by decide +kernel
theorem dX1_resultOf_45 : decode cX1_resultOf 45 = .ok (.iushr, 1) := by decide +kernel
theorem dX1_resultOf_46 : decode cX1_resultOf 46 = .ok (.iconst 1, 1) := by decide +kernel
theorem dX1_resultOf_47 : decode cX1_resultOf 47 = .ok (.iand, 1) := by decide +kernel
theorem dX1_resultOf_48 : decode cX1_resultOf 48 = .ok (.iconst 1, 1) := by decide +kernel
theorem dX1_resultOf_49 : decode cX1_resultOf 49 = .ok (.if_icmp .ne 7, 3) := by decide +kernel
theorem dX1_resultOf_52 : decode cX1_resultOf 52 = .ok (.iconst 1, 1) := by decide +kernel
theorem dX1_resultOf_53 : decode cX1_resultOf 53 = .ok (.goto 4, 3) := by decide +kernel
theorem dX1_resultOf_56 : decode cX1_resultOf 56 = .ok (.iconst (-1), 1) := by decide +kernel
theorem dX1_resultOf_57 : decode cX1_resultOf 57 = .ok (.ireturn, 1) := by decide +kernel
set_option maxRecDepth 20000 in
theorem ggX1_gainOf_X1_countOf : GoodIn wsX1_gainOf wsX1_countOf := goodIn_r _ [7, 8, 9, 10, 14, 15, 16, 17, 18, 19, 20] (by decide +kernel) (by decide +kernel)
set_option maxRecDepth 20000 in
theorem gX1_gainOf_X1_countOf : GoodIn wsX1_gainOf (wsV RX1 34 RX1 yX1_countOf wsX1_countOf) := goodIn_app (goodIn_of _ (by decide +kernel)) ggX1_gainOf_X1_countOf
set_option maxRecDepth 20000 in
theorem ggX1_gainOf_X1_gainBy : GoodIn wsX1_gainOf wsX1_gainBy := goodIn_r _ [13] (by decide +kernel) (by decide +kernel)
set_option maxRecDepth 20000 in
theorem gX1_gainOf_X1_gainBy : GoodIn wsX1_gainOf (va_wsS RX1 43 yX1_gainBy wsX1_gainBy) := goodIn_app (goodIn_of _ (by decide +kernel)) ggX1_gainOf_X1_gainBy
theorem dX1_gainOf_0 : decode cX1_gainOf 0 = .ok (.iconst 0, 1) := by decide +kernel
theorem dX1_gainOf_1 : decode cX1_gainOf 1 = .ok (.istore_n 2, 1) := by decide +kernel
theorem dX1_gainOf_2 : decode cX1_gainOf 2 = .ok (.iconst 0, 1) := by decide +kernel
theorem dX1_gainOf_3 : decode cX1_gainOf 3 = .ok (.istore_n 3, 1) := by decide +kernel
theorem dX1_gainOf_4 : decode cX1_gainOf 4 = .ok (.iload_n 3, 1) := by decide +kernel
theorem dX1_gainOf_5 : decode cX1_gainOf 5 = .ok (.aload_n 0, 1) := by decide +kernel
theorem dX1_gainOf_6 : decode cX1_gainOf 6 = .ok (.getfield 31, 3) := by decide +kernel
theorem dX1_gainOf_9 : decode cX1_gainOf 9 = .ok (.if_icmp .ge 28, 3) := by decide +kernel
theorem dX1_gainOf_12 : decode cX1_gainOf 12 = .ok (.iload_n 2, 1) := by decide +kernel
theorem dX1_gainOf_13 : decode cX1_gainOf 13 = .ok (.aload_n 0, 1) := by decide +kernel
theorem dX1_gainOf_14 : decode cX1_gainOf 14 = .ok (.iload_n 3, 1) := by decide +kernel
theorem dX1_gainOf_15 : decode cX1_gainOf 15 = .ok (.invokevirtual 34, 3) := by decide +kernel
theorem dX1_gainOf_18 : decode cX1_gainOf 18 = .ok (.aload_n 0, 1) := by decide +kernel
theorem dX1_gainOf_19 : decode cX1_gainOf 19 = .ok (.getfield 24, 3) := by decide +kernel
theorem dX1_gainOf_22 : decode cX1_gainOf 22 = .ok (.iload_n 1, 1) := by decide +kernel
theorem dX1_gainOf_23 : decode cX1_gainOf 23 = .ok (.aaload, 1) := by decide +kernel
theorem dX1_gainOf_24 : decode cX1_gainOf 24 = .ok (.iload_n 3, 1) := by decide +kernel
theorem dX1_gainOf_25 : decode cX1_gainOf 25 = .ok (.iaload, 1) := by decide +kernel
theorem dX1_gainOf_26 : decode cX1_gainOf 26 = .ok (.invokestatic 43, 3) := by decide +kernel
theorem dX1_gainOf_29 : decode cX1_gainOf 29 = .ok (.iadd, 1) := by decide +kernel
theorem dX1_gainOf_30 : decode cX1_gainOf 30 = .ok (.istore_n 2, 1) := by decide +kernel
theorem dX1_gainOf_31 : decode cX1_gainOf 31 = .ok (.iinc 3 1, 3) := by decide +kernel
theorem dX1_gainOf_34 : decode cX1_gainOf 34 = .ok (.goto (-30), 3) := by decide +kernel
theorem dX1_gainOf_37 : decode cX1_gainOf 37 = .ok (.iload_n 2, 1) := by decide +kernel
theorem dX1_gainOf_38 : decode cX1_gainOf 38 = .ok (.ireturn, 1) := by decide +kernel
theorem dX1_gainBy_0 : decode cX1_gainBy 0 = .ok (.iload_n 0, 1) := by decide +kernel
theorem dX1_gainBy_1 : decode cX1_gainBy 1 = .ok (.ifCond .ge 5, 3) := by decide +kernel
theorem dX1_gainBy_4 : decode cX1_gainBy 4 = .ok (.iconst 0, 1) := by decide +kernel
theorem dX1_gainBy_5 : decode cX1_gainBy 5 = .ok (.ireturn, 1) := by decide +kernel
theorem dX1_gainBy_6 : decode cX1_gainBy 6 = .ok (.iload_n 0, 1) := by decide +kernel
theorem dX1_gainBy_7 : decode cX1_gainBy 7 = .ok (.ifCond .ne 7, 3) := by decide +kernel
theorem dX1_gainBy_10 : decode cX1_gainBy 10 = .ok (.iload_n 1, 1) := by decide +kernel
theorem dX1_gainBy_11 : decode cX1_gainBy 11 = .ok (.goto 6, 3) := by decide +kernel
theorem dX1_gainBy_14 : decode cX1_gainBy 14 = .ok (.iconst 2, 1) := by decide +kernel
theorem dX1_gainBy_15 : decode cX1_gainBy 15 = .ok (.iload_n 1, 1) := by decide +kernel
theorem dX1_gainBy_16 : decode cX1_gainBy 16 = .ok (.imul, 1) := by decide +kernel
theorem dX1_gainBy_17 : decode cX1_gainBy 17 = .ok (.ireturn, 1) := by decide +kernel
set_option maxRecDepth 20000 in
theorem ggX1_swingsOf_X1_countWithout : GoodIn wsX1_swingsOf wsX1_countWithout := goodIn_r _ [7, 8, 2, 9, 10, 11, 6, 12, 13, 21, 22, 23, 24, 25, 26, 27] (by decide +kernel) (by decide +kernel)
set_option maxRecDepth 20000 in
theorem gX1_swingsOf_X1_countWithout : GoodIn wsX1_swingsOf (wsV RX1 47 RX1 yX1_countWithout wsX1_countWithout) := goodIn_app (goodIn_of _ (by decide +kernel)) ggX1_swingsOf_X1_countWithout
set_option maxRecDepth 20000 in
theorem ggX1_swingsOf_X1_resultOf : GoodIn wsX1_swingsOf wsX1_resultOf := goodIn_r _ [17, 18, 19, 20, 21, 22, 23, 24, 25, 26, 27] (by decide +kernel) (by decide +kernel)
set_option maxRecDepth 20000 in
theorem gX1_swingsOf_X1_resultOf : GoodIn wsX1_swingsOf (wsV RX1 50 RX1 yX1_resultOf wsX1_resultOf) := goodIn_app (goodIn_of _ (by decide +kernel)) ggX1_swingsOf_X1_resultOf
theorem dX1_swingsOf_0 : decode cX1_swingsOf 0 = .ok (.iconst 0, 1) := by decide +kernel
theorem dX1_swingsOf_1 : decode cX1_swingsOf 1 = .ok (.istore_n 2, 1) := by decide +kernel
theorem dX1_swingsOf_2 : decode cX1_swingsOf 2 = .ok (.iconst 0, 1) := by decide +kernel
theorem dX1_swingsOf_3 : decode cX1_swingsOf 3 = .ok (.istore_n 3, 1) := by decide +kernel
theorem dX1_swingsOf_4 : decode cX1_swingsOf 4 = .ok (.iload_n 3, 1) := by decide +kernel
theorem dX1_swingsOf_5 : decode cX1_swingsOf 5 = .ok (.aload_n 0, 1) := by decide +kernel
theorem dX1_swingsOf_6 : decode cX1_swingsOf 6 = .ok (.getfield 31, 3) := by decide +kernel
theorem dX1_swingsOf_9 : decode cX1_swingsOf 9 = .ok (.if_icmp .ge 49, 3) := by decide +kernel
theorem dX1_swingsOf_12 : decode cX1_swingsOf 12 = .ok (.aload_n 0, 1) := by decide +kernel
theorem dX1_swingsOf_13 : decode cX1_swingsOf 13 = .ok (.iload_n 1, 1) := by decide +kernel
theorem dX1_swingsOf_14 : decode cX1_swingsOf 14 = .ok (.iload_n 3, 1) := by decide +kernel
theorem dX1_swingsOf_15 : decode cX1_swingsOf 15 = .ok (.invokevirtual 47, 3) := by decide +kernel
theorem dX1_swingsOf_18 : decode cX1_swingsOf 18 = .ok (.istore 4, 2) := by decide +kernel
theorem dX1_swingsOf_20 : decode cX1_swingsOf 20 = .ok (.aload_n 0, 1) := by decide +kernel
theorem dX1_swingsOf_21 : decode cX1_swingsOf 21 = .ok (.iload_n 3, 1) := by decide +kernel
theorem dX1_swingsOf_22 : decode cX1_swingsOf 22 = .ok (.iload 4, 2) := by decide +kernel
theorem dX1_swingsOf_24 : decode cX1_swingsOf 24 = .ok (.invokevirtual 50, 3) := by decide +kernel
theorem dX1_swingsOf_27 : decode cX1_swingsOf 27 = .ok (.aload_n 0, 1) := by decide +kernel
theorem dX1_swingsOf_28 : decode cX1_swingsOf 28 = .ok (.iload_n 3, 1) := by decide +kernel
theorem dX1_swingsOf_29 : decode cX1_swingsOf 29 = .ok (.iload 4, 2) := by decide +kernel
theorem dX1_swingsOf_31 : decode cX1_swingsOf 31 = .ok (.aload_n 0, 1) := by decide +kernel
theorem dX1_swingsOf_32 : decode cX1_swingsOf 32 = .ok (.getfield 21, 3) := by decide +kernel
theorem dX1_swingsOf_35 : decode cX1_swingsOf 35 = .ok (.iload_n 1, 1) := by decide +kernel
theorem dX1_swingsOf_36 : decode cX1_swingsOf 36 = .ok (.aaload, 1) := by decide +kernel
theorem dX1_swingsOf_37 : decode cX1_swingsOf 37 = .ok (.iload_n 3, 1) := by decide +kernel
theorem dX1_swingsOf_38 : decode cX1_swingsOf 38 = .ok (.iaload, 1) := by decide +kernel
theorem dX1_swingsOf_39 : decode cX1_swingsOf 39 = .ok (.iadd, 1) := by decide +kernel
theorem dX1_swingsOf_40 : decode cX1_swingsOf 40 = .ok (.invokevirtual 50, 3) := by decide +kernel
theorem dX1_swingsOf_43 : decode cX1_swingsOf 43 = .ok (.if_icmp .eq 9, 3) := by decide +kernel
theorem dX1_swingsOf_46 : decode cX1_swingsOf 46 = .ok (.iload_n 2, 1) := by decide +kernel
theorem dX1_swingsOf_47 : decode cX1_swingsOf 47 = .ok (.iconst 1, 1) := by decide +kernel
theorem dX1_swingsOf_48 : decode cX1_swingsOf 48 = .ok (.iload_n 3, 1) := by decide +kernel
theorem dX1_swingsOf_49 : decode cX1_swingsOf 49 = .ok (.ishl, 1) := by decide +kernel
theorem dX1_swingsOf_50 : decode cX1_swingsOf 50 = .ok (.ior, 1) := by decide +kernel
theorem dX1_swingsOf_51 : decode cX1_swingsOf 51 = .ok (.istore_n 2, 1) := by decide +kernel
theorem dX1_swingsOf_52 : decode cX1_swingsOf 52 = .ok (.iinc 3 1, 3) := by decide +kernel
theorem dX1_swingsOf_55 : decode cX1_swingsOf 55 = .ok (.goto (-51), 3) := by decide +kernel
theorem dX1_swingsOf_58 : decode cX1_swingsOf 58 = .ok (.iload_n 2, 1) := by decide +kernel
theorem dX1_swingsOf_59 : decode cX1_swingsOf 59 = .ok (.ireturn, 1) := by decide +kernel
set_option maxRecDepth 20000 in
theorem ggX1_likenessOf_X1_costOf : GoodIn wsX1_likenessOf wsX1_costOf := goodIn_r _ [8, 1, 2, 9, 10, 11, 12, 13, 14, 15] (by decide +kernel) (by decide +kernel)
set_option maxRecDepth 20000 in
theorem gX1_likenessOf_X1_costOf : GoodIn wsX1_likenessOf (wsV RX1 53 RX1 yX1_costOf wsX1_costOf) := goodIn_app (goodIn_of _ (by decide +kernel)) ggX1_likenessOf_X1_costOf
theorem dX1_likenessOf_0 : decode cX1_likenessOf 0 = .ok (.aload_n 0, 1) := by decide +kernel
theorem dX1_likenessOf_1 : decode cX1_likenessOf 1 = .ok (.iload_n 1, 1) := by decide +kernel
theorem dX1_likenessOf_2 : decode cX1_likenessOf 2 = .ok (.invokevirtual 53, 3) := by decide +kernel
theorem dX1_likenessOf_5 : decode cX1_likenessOf 5 = .ok (.i2l, 1) := by decide +kernel
theorem dX1_likenessOf_6 : decode cX1_likenessOf 6 = .ok (.aload_n 0, 1) := by decide +kernel
theorem dX1_likenessOf_7 : decode cX1_likenessOf 7 = .ok (.iload_n 2, 1) := by decide +kernel
theorem dX1_likenessOf_8 : decode cX1_likenessOf 8 = .ok (.invokevirtual 53, 3) := by decide +kernel
theorem dX1_likenessOf_11 : decode cX1_likenessOf 11 = .ok (.i2l, 1) := by decide +kernel
theorem dX1_likenessOf_12 : decode cX1_likenessOf 12 = .ok (.lmul, 1) := by decide +kernel
theorem dX1_likenessOf_13 : decode cX1_likenessOf 13 = .ok (.lstore_n 3, 1) := by decide +kernel
theorem dX1_likenessOf_14 : decode cX1_likenessOf 14 = .ok (.lload_n 3, 1) := by decide +kernel
theorem dX1_likenessOf_15 : decode cX1_likenessOf 15 = .ok (.lconst 0, 1) := by decide +kernel
theorem dX1_likenessOf_16 : decode cX1_likenessOf 16 = .ok (.lcmp, 1) := by decide +kernel
theorem dX1_likenessOf_17 : decode cX1_likenessOf 17 = .ok (.ifCond .ne 7, 3) := by decide +kernel
theorem dX1_likenessOf_20 : decode cX1_likenessOf 20 = .ok (.sipush (-2000), 3) := by decide +kernel
theorem dX1_likenessOf_23 : decode cX1_likenessOf 23 = .ok (.ireturn, 1) := by decide +kernel
theorem dX1_likenessOf_24 : decode cX1_likenessOf 24 = .ok (.lconst 0, 1) := by decide +kernel
theorem dX1_likenessOf_25 : decode cX1_likenessOf 25 = .ok (.lstore 5, 2) := by decide +kernel
theorem dX1_likenessOf_27 : decode cX1_likenessOf 27 = .ok (.iconst 0, 1) := by decide +kernel
theorem dX1_likenessOf_28 : decode cX1_likenessOf 28 = .ok (.istore 7, 2) := by decide +kernel
theorem dX1_likenessOf_30 : decode cX1_likenessOf 30 = .ok (.iload 7, 2) := by decide +kernel
theorem dX1_likenessOf_32 : decode cX1_likenessOf 32 = .ok (.aload_n 0, 1) := by decide +kernel
theorem dX1_likenessOf_33 : decode cX1_likenessOf 33 = .ok (.getfield 31, 3) := by decide +kernel
theorem dX1_likenessOf_36 : decode cX1_likenessOf 36 = .ok (.if_icmp .ge 34, 3) := by decide +kernel
theorem dX1_likenessOf_39 : decode cX1_likenessOf 39 = .ok (.lload 5, 2) := by decide +kernel
theorem dX1_likenessOf_41 : decode cX1_likenessOf 41 = .ok (.aload_n 0, 1) := by decide +kernel
theorem dX1_likenessOf_42 : decode cX1_likenessOf 42 = .ok (.getfield 21, 3) := by decide +kernel
theorem dX1_likenessOf_45 : decode cX1_likenessOf 45 = .ok (.iload_n 1, 1) := by decide +kernel
theorem dX1_likenessOf_46 : decode cX1_likenessOf 46 = .ok (.aaload, 1) := by decide +kernel
theorem dX1_likenessOf_47 : decode cX1_likenessOf 47 = .ok (.iload 7, 2) := by decide +kernel
theorem dX1_likenessOf_49 : decode cX1_likenessOf 49 = .ok (.iaload, 1) := by decide +kernel
theorem dX1_likenessOf_50 : decode cX1_likenessOf 50 = .ok (.aload_n 0, 1) := by decide +kernel
theorem dX1_likenessOf_51 : decode cX1_likenessOf 51 = .ok (.getfield 21, 3) := by decide +kernel
theorem dX1_likenessOf_54 : decode cX1_likenessOf 54 = .ok (.iload_n 2, 1) := by decide +kernel
theorem dX1_likenessOf_55 : decode cX1_likenessOf 55 = .ok (.aaload, 1) := by decide +kernel
theorem dX1_likenessOf_56 : decode cX1_likenessOf 56 = .ok (.iload 7, 2) := by decide +kernel
theorem dX1_likenessOf_58 : decode cX1_likenessOf 58 = .ok (.iaload, 1) := by decide +kernel
theorem dX1_likenessOf_59 : decode cX1_likenessOf 59 = .ok (.imul, 1) := by decide +kernel
theorem dX1_likenessOf_60 : decode cX1_likenessOf 60 = .ok (.i2l, 1) := by decide +kernel
theorem dX1_likenessOf_61 : decode cX1_likenessOf 61 = .ok (.ladd, 1) := by decide +kernel
theorem dX1_likenessOf_62 : decode cX1_likenessOf 62 = .ok (.lstore 5, 2) := by decide +kernel
theorem dX1_likenessOf_64 : decode cX1_likenessOf 64 = .ok (.iinc 7 1, 3) := by decide +kernel
theorem dX1_likenessOf_67 : decode cX1_likenessOf 67 = .ok (.goto (-37), 3) := by decide +kernel
theorem dX1_likenessOf_70 : decode cX1_likenessOf 70 = .ok (.lload 5, 2) := by decide +kernel
theorem dX1_likenessOf_72 : decode cX1_likenessOf 72 = .ok (.lload 5, 2) := by decide +kernel
theorem dX1_likenessOf_74 : decode cX1_likenessOf 74 = .ok (.lmul, 1) := by decide +kernel
theorem dX1_likenessOf_75 : decode cX1_likenessOf 75 = .ok (.ldc2_w 56, 3) := by decide +kernel
theorem dX1_likenessOf_78 : decode cX1_likenessOf 78 = .ok (.lmul, 1) := by decide +kernel
theorem dX1_likenessOf_79 : decode cX1_likenessOf 79 = .ok (.lload_n 3, 1) := by decide +kernel
theorem dX1_likenessOf_80 : decode cX1_likenessOf 80 = .ok (.ldiv, 1) := by decide +kernel
theorem dX1_likenessOf_81 : decode cX1_likenessOf 81 = .ok (.l2i, 1) := by decide +kernel
theorem dX1_likenessOf_82 : decode cX1_likenessOf 82 = .ok (.istore 7, 2) := by decide +kernel
theorem dX1_likenessOf_84 : decode cX1_likenessOf 84 = .ok (.lload 5, 2) := by decide +kernel
theorem dX1_likenessOf_86 : decode cX1_likenessOf 86 = .ok (.lconst 0, 1) := by decide +kernel
theorem dX1_likenessOf_87 : decode cX1_likenessOf 87 = .ok (.lcmp, 1) := by decide +kernel
theorem dX1_likenessOf_88 : decode cX1_likenessOf 88 = .ok (.ifCond .ge 9, 3) := by decide +kernel
theorem dX1_likenessOf_91 : decode cX1_likenessOf 91 = .ok (.iload 7, 2) := by decide +kernel
theorem dX1_likenessOf_93 : decode cX1_likenessOf 93 = .ok (.ineg, 1) := by decide +kernel
theorem dX1_likenessOf_94 : decode cX1_likenessOf 94 = .ok (.goto 5, 3) := by decide +kernel
theorem dX1_likenessOf_97 : decode cX1_likenessOf 97 = .ok (.iload 7, 2) := by decide +kernel
theorem dX1_likenessOf_99 : decode cX1_likenessOf 99 = .ok (.ireturn, 1) := by decide +kernel
set_option maxRecDepth 20000 in
theorem ggX1_groupOf_X1_alikeTo : GoodIn wsX1_groupOf wsX1_alikeTo := goodIn_r _ [6, 1, 7, 8, 9, 5, 10, 11, 12, 13, 14, 15, 16, 17, 18, 19, 20, 21, 22, 23, 24] (by decide +kernel) (by decide +kernel)
set_option maxRecDepth 20000 in
theorem gX1_groupOf_X1_alikeTo : GoodIn wsX1_groupOf (wsV RX1 58 RX1 yX1_alikeTo wsX1_alikeTo) := goodIn_app (goodIn_of _ (by decide +kernel)) ggX1_groupOf_X1_alikeTo
theorem dX1_groupOf_0 : decode cX1_groupOf 0 = .ok (.iconst 1, 1) := by decide +kernel
theorem dX1_groupOf_1 : decode cX1_groupOf 1 = .ok (.iload_n 1, 1) := by decide +kernel
theorem dX1_groupOf_2 : decode cX1_groupOf 2 = .ok (.ishl, 1) := by decide +kernel
theorem dX1_groupOf_3 : decode cX1_groupOf 3 = .ok (.istore_n 3, 1) := by decide +kernel
theorem dX1_groupOf_4 : decode cX1_groupOf 4 = .ok (.iconst 0, 1) := by decide +kernel
theorem dX1_groupOf_5 : decode cX1_groupOf 5 = .ok (.istore 4, 2) := by decide +kernel
theorem dX1_groupOf_7 : decode cX1_groupOf 7 = .ok (.iconst 0, 1) := by decide +kernel
theorem dX1_groupOf_8 : decode cX1_groupOf 8 = .ok (.istore 5, 2) := by decide +kernel
theorem dX1_groupOf_10 : decode cX1_groupOf 10 = .ok (.iload 5, 2) := by decide +kernel
theorem dX1_groupOf_12 : decode cX1_groupOf 12 = .ok (.aload_n 0, 1) := by decide +kernel
theorem dX1_groupOf_13 : decode cX1_groupOf 13 = .ok (.getfield 27, 3) := by decide +kernel
theorem dX1_groupOf_16 : decode cX1_groupOf 16 = .ok (.if_icmp .ge 56, 3) := by decide +kernel
theorem dX1_groupOf_19 : decode cX1_groupOf 19 = .ok (.iload_n 3, 1) := by decide +kernel
theorem dX1_groupOf_20 : decode cX1_groupOf 20 = .ok (.iload 4, 2) := by decide +kernel
theorem dX1_groupOf_22 : decode cX1_groupOf 22 = .ok (.if_icmp .eq 50, 3) := by decide +kernel
theorem dX1_groupOf_25 : decode cX1_groupOf 25 = .ok (.iload_n 3, 1) := by decide +kernel
theorem dX1_groupOf_26 : decode cX1_groupOf 26 = .ok (.istore 4, 2) := by decide +kernel
theorem dX1_groupOf_28 : decode cX1_groupOf 28 = .ok (.iconst 0, 1) := by decide +kernel
theorem dX1_groupOf_29 : decode cX1_groupOf 29 = .ok (.istore 6, 2) := by decide +kernel
theorem dX1_groupOf_31 : decode cX1_groupOf 31 = .ok (.iload 6, 2) := by decide +kernel
theorem dX1_groupOf_33 : decode cX1_groupOf 33 = .ok (.aload_n 0, 1) := by decide +kernel
theorem dX1_groupOf_34 : decode cX1_groupOf 34 = .ok (.getfield 27, 3) := by decide +kernel
theorem dX1_groupOf_37 : decode cX1_groupOf 37 = .ok (.if_icmp .ge 29, 3) := by decide +kernel
theorem dX1_groupOf_40 : decode cX1_groupOf 40 = .ok (.iload_n 3, 1) := by decide +kernel
theorem dX1_groupOf_41 : decode cX1_groupOf 41 = .ok (.iload 6, 2) := by decide +kernel
theorem dX1_groupOf_43 : decode cX1_groupOf 43 = .ok (.ishr, 1) := by decide +kernel
theorem dX1_groupOf_44 : decode cX1_groupOf 44 = .ok (.iconst 1, 1) := by decide +kernel
theorem dX1_groupOf_45 : decode cX1_groupOf 45 = .ok (.iand, 1) := by decide +kernel
theorem dX1_groupOf_46 : decode cX1_groupOf 46 = .ok (.iconst 1, 1) := by decide +kernel
theorem dX1_groupOf_47 : decode cX1_groupOf 47 = .ok (.if_icmp .ne 13, 3) := by decide +kernel
theorem dX1_groupOf_50 : decode cX1_groupOf 50 = .ok (.iload_n 3, 1) := by decide +kernel
theorem dX1_groupOf_51 : decode cX1_groupOf 51 = .ok (.aload_n 0, 1) := by decide +kernel
theorem dX1_groupOf_52 : decode cX1_groupOf 52 = .ok (.iload 6, 2) := by decide +kernel
theorem dX1_groupOf_54 : decode cX1_groupOf 54 = .ok (.iload_n 2, 1) := by decide +kernel
theorem dX1_groupOf_55 : decode cX1_groupOf 55 = .ok (.invokevirtual 58, 3) := by decide +kernel
theorem dX1_groupOf_58 : decode cX1_groupOf 58 = .ok (.ior, 1) := by decide +kernel
theorem dX1_groupOf_59 : decode cX1_groupOf 59 = .ok (.istore_n 3, 1) := by decide +kernel
theorem dX1_groupOf_60 : decode cX1_groupOf 60 = .ok (.iinc 6 1, 3) := by decide +kernel
theorem dX1_groupOf_63 : decode cX1_groupOf 63 = .ok (.goto (-32), 3) := by decide +kernel
theorem dX1_groupOf_66 : decode cX1_groupOf 66 = .ok (.iinc 5 1, 3) := by decide +kernel
theorem dX1_groupOf_69 : decode cX1_groupOf 69 = .ok (.goto (-59), 3) := by decide +kernel
theorem dX1_groupOf_72 : decode cX1_groupOf 72 = .ok (.iload_n 3, 1) := by decide +kernel
theorem dX1_groupOf_73 : decode cX1_groupOf 73 = .ok (.ireturn, 1) := by decide +kernel
set_option maxRecDepth 20000 in
theorem ggX1_alikeTo_X1_likenessOf : GoodIn wsX1_alikeTo wsX1_likenessOf := goodIn_r _ [6, 7, 8, 9, 10, 11, 12, 5, 13, 14, 15, 16, 17, 18, 19, 20] (by decide +kernel) (by decide +kernel)
set_option maxRecDepth 20000 in
theorem gX1_alikeTo_X1_likenessOf : GoodIn wsX1_alikeTo (wsV RX1 61 RX1 yX1_likenessOf wsX1_likenessOf) := goodIn_app (goodIn_of _ (by decide +kernel)) ggX1_alikeTo_X1_likenessOf
theorem dX1_alikeTo_0 : decode cX1_alikeTo 0 = .ok (.iconst 0, 1) := by decide +kernel
theorem dX1_alikeTo_1 : decode cX1_alikeTo 1 = .ok (.istore_n 3, 1) := by decide +kernel
theorem dX1_alikeTo_2 : decode cX1_alikeTo 2 = .ok (.iconst 0, 1) := by decide +kernel
theorem dX1_alikeTo_3 : decode cX1_alikeTo 3 = .ok (.istore 4, 2) := by decide +kernel
theorem dX1_alikeTo_5 : decode cX1_alikeTo 5 = .ok (.iload 4, 2) := by decide +kernel
theorem dX1_alikeTo_7 : decode cX1_alikeTo 7 = .ok (.aload_n 0, 1) := by decide +kernel
theorem dX1_alikeTo_8 : decode cX1_alikeTo 8 = .ok (.getfield 27, 3) := by decide +kernel
theorem dX1_alikeTo_11 : decode cX1_alikeTo 11 = .ok (.if_icmp .ge 27, 3) := by decide +kernel
theorem dX1_alikeTo_14 : decode cX1_alikeTo 14 = .ok (.aload_n 0, 1) := by decide +kernel
theorem dX1_alikeTo_15 : decode cX1_alikeTo 15 = .ok (.iload_n 1, 1) := by decide +kernel
theorem dX1_alikeTo_16 : decode cX1_alikeTo 16 = .ok (.iload 4, 2) := by decide +kernel
theorem dX1_alikeTo_18 : decode cX1_alikeTo 18 = .ok (.invokevirtual 61, 3) := by decide +kernel
theorem dX1_alikeTo_21 : decode cX1_alikeTo 21 = .ok (.iload_n 2, 1) := by decide +kernel
theorem dX1_alikeTo_22 : decode cX1_alikeTo 22 = .ok (.if_icmp .lt 10, 3) := by decide +kernel
theorem dX1_alikeTo_25 : decode cX1_alikeTo 25 = .ok (.iload_n 3, 1) := by decide +kernel
theorem dX1_alikeTo_26 : decode cX1_alikeTo 26 = .ok (.iconst 1, 1) := by decide +kernel
theorem dX1_alikeTo_27 : decode cX1_alikeTo 27 = .ok (.iload 4, 2) := by decide +kernel
theorem dX1_alikeTo_29 : decode cX1_alikeTo 29 = .ok (.ishl, 1) := by decide +kernel
theorem dX1_alikeTo_30 : decode cX1_alikeTo 30 = .ok (.ior, 1) := by decide +kernel
theorem dX1_alikeTo_31 : decode cX1_alikeTo 31 = .ok (.istore_n 3, 1) := by decide +kernel
theorem dX1_alikeTo_32 : decode cX1_alikeTo 32 = .ok (.iinc 4 1, 3) := by decide +kernel
theorem dX1_alikeTo_35 : decode cX1_alikeTo 35 = .ok (.goto (-30), 3) := by decide +kernel
theorem dX1_alikeTo_38 : decode cX1_alikeTo 38 = .ok (.iload_n 3, 1) := by decide +kernel
theorem dX1_alikeTo_39 : decode cX1_alikeTo 39 = .ok (.ireturn, 1) := by decide +kernel
theorem dX1_voicesInOne_0 : decode cX1_voicesInOne 0 = .ok (.lconst 0, 1) := by decide +kernel
theorem dX1_voicesInOne_1 : decode cX1_voicesInOne 1 = .ok (.lstore_n 2, 1) := by decide +kernel
theorem dX1_voicesInOne_2 : decode cX1_voicesInOne 2 = .ok (.iconst 0, 1) := by decide +kernel
theorem dX1_voicesInOne_3 : decode cX1_voicesInOne 3 = .ok (.istore 4, 2) := by decide +kernel
theorem dX1_voicesInOne_5 : decode cX1_voicesInOne 5 = .ok (.iload 4, 2) := by decide +kernel
theorem dX1_voicesInOne_7 : decode cX1_voicesInOne 7 = .ok (.aload_n 0, 1) := by decide +kernel
theorem dX1_voicesInOne_8 : decode cX1_voicesInOne 8 = .ok (.getfield 31, 3) := by decide +kernel
theorem dX1_voicesInOne_11 : decode cX1_voicesInOne 11 = .ok (.if_icmp .ge 30, 3) := by decide +kernel
theorem dX1_voicesInOne_14 : decode cX1_voicesInOne 14 = .ok (.lload_n 2, 1) := by decide +kernel
theorem dX1_voicesInOne_15 : decode cX1_voicesInOne 15 = .ok (.ldc2_w 64, 3) := by decide +kernel
theorem dX1_voicesInOne_18 : decode cX1_voicesInOne 18 = .ok (.lmul, 1) := by decide +kernel
theorem dX1_voicesInOne_19 : decode cX1_voicesInOne 19 = .ok (.aload_n 0, 1) := by decide +kernel
theorem dX1_voicesInOne_20 : decode cX1_voicesInOne 20 = .ok (.getfield 21, 3) := by decide +kernel
theorem dX1_voicesInOne_23 : decode cX1_voicesInOne 23 = .ok (.iload_n 1, 1) := by decide +kernel
theorem dX1_voicesInOne_24 : decode cX1_voicesInOne 24 = .ok (.aaload, 1) := by decide +kernel
theorem dX1_voicesInOne_25 : decode cX1_voicesInOne 25 = .ok (.iload 4, 2) := by decide +kernel
theorem dX1_voicesInOne_27 : decode cX1_voicesInOne 27 = .ok (.iaload, 1) := by decide +kernel
theorem dX1_voicesInOne_28 : decode cX1_voicesInOne 28 = .ok (.i2l, 1) := by decide +kernel
theorem dX1_voicesInOne_29 : decode cX1_voicesInOne 29 = .ok (.ladd, 1) := by decide +kernel
theorem dX1_voicesInOne_30 : decode cX1_voicesInOne 30 = .ok (.ldc2_w 66, 3) := by decide +kernel
theorem dX1_voicesInOne_33 : decode cX1_voicesInOne 33 = .ok (.ladd, 1) := by decide +kernel
theorem dX1_voicesInOne_34 : decode cX1_voicesInOne 34 = .ok (.lstore_n 2, 1) := by decide +kernel
theorem dX1_voicesInOne_35 : decode cX1_voicesInOne 35 = .ok (.iinc 4 1, 3) := by decide +kernel
theorem dX1_voicesInOne_38 : decode cX1_voicesInOne 38 = .ok (.goto (-33), 3) := by decide +kernel
theorem dX1_voicesInOne_41 : decode cX1_voicesInOne 41 = .ok (.lload_n 2, 1) := by decide +kernel
theorem dX1_voicesInOne_42 : decode cX1_voicesInOne 42 = .ok (.lreturn, 1) := by decide +kernel
theorem dX1_digestPerson_0 : decode cX1_digestPerson 0 = .ok (.ldc2_w 68, 3) := by decide +kernel
theorem dX1_digestPerson_3 : decode cX1_digestPerson 3 = .ok (.lload_n 1, 1) := by decide +kernel
theorem dX1_digestPerson_4 : decode cX1_digestPerson 4 = .ok (.lmul, 1) := by decide +kernel
theorem dX1_digestPerson_5 : decode cX1_digestPerson 5 = .ok (.aload_n 0, 1) := by decide +kernel
theorem dX1_digestPerson_6 : decode cX1_digestPerson 6 = .ok (.getfield 9, 3) := by decide +kernel
theorem dX1_digestPerson_9 : decode cX1_digestPerson 9 = .ok (.iload_n 3, 1) := by decide +kernel
theorem dX1_digestPerson_10 : decode cX1_digestPerson 10 = .ok (.iaload, 1) := by decide +kernel
theorem dX1_digestPerson_11 : decode cX1_digestPerson 11 = .ok (.i2l, 1) := by decide +kernel
theorem dX1_digestPerson_12 : decode cX1_digestPerson 12 = .ok (.ladd, 1) := by decide +kernel
theorem dX1_digestPerson_13 : decode cX1_digestPerson 13 = .ok (.lstore 4, 2) := by decide +kernel
theorem dX1_digestPerson_15 : decode cX1_digestPerson 15 = .ok (.ldc2_w 68, 3) := by decide +kernel
theorem dX1_digestPerson_18 : decode cX1_digestPerson 18 = .ok (.lload 4, 2) := by decide +kernel
theorem dX1_digestPerson_20 : decode cX1_digestPerson 20 = .ok (.lmul, 1) := by decide +kernel
theorem dX1_digestPerson_21 : decode cX1_digestPerson 21 = .ok (.aload_n 0, 1) := by decide +kernel
theorem dX1_digestPerson_22 : decode cX1_digestPerson 22 = .ok (.getfield 15, 3) := by decide +kernel
theorem dX1_digestPerson_25 : decode cX1_digestPerson 25 = .ok (.iload_n 3, 1) := by decide +kernel
theorem dX1_digestPerson_26 : decode cX1_digestPerson 26 = .ok (.baload, 1) := by decide +kernel
theorem dX1_digestPerson_27 : decode cX1_digestPerson 27 = .ok (.ifCond .eq 7, 3) := by decide +kernel
theorem dX1_digestPerson_30 : decode cX1_digestPerson 30 = .ok (.iconst 1, 1) := by decide +kernel
theorem dX1_digestPerson_31 : decode cX1_digestPerson 31 = .ok (.goto 4, 3) := by decide +kernel
theorem dX1_digestPerson_34 : decode cX1_digestPerson 34 = .ok (.iconst 0, 1) := by decide +kernel
theorem dX1_digestPerson_35 : decode cX1_digestPerson 35 = .ok (.i2l, 1) := by decide +kernel
theorem dX1_digestPerson_36 : decode cX1_digestPerson 36 = .ok (.ladd, 1) := by decide +kernel
theorem dX1_digestPerson_37 : decode cX1_digestPerson 37 = .ok (.lstore 4, 2) := by decide +kernel
theorem dX1_digestPerson_39 : decode cX1_digestPerson 39 = .ok (.iconst 0, 1) := by decide +kernel
theorem dX1_digestPerson_40 : decode cX1_digestPerson 40 = .ok (.istore 6, 2) := by decide +kernel
theorem dX1_digestPerson_42 : decode cX1_digestPerson 42 = .ok (.iload 6, 2) := by decide +kernel
theorem dX1_digestPerson_44 : decode cX1_digestPerson 44 = .ok (.aload_n 0, 1) := by decide +kernel
theorem dX1_digestPerson_45 : decode cX1_digestPerson 45 = .ok (.getfield 31, 3) := by decide +kernel
theorem dX1_digestPerson_48 : decode cX1_digestPerson 48 = .ok (.if_icmp .ge 28, 3) := by decide +kernel
theorem dX1_digestPerson_51 : decode cX1_digestPerson 51 = .ok (.ldc2_w 68, 3) := by decide +kernel
theorem dX1_digestPerson_54 : decode cX1_digestPerson 54 = .ok (.lload 4, 2) := by decide +kernel
theorem dX1_digestPerson_56 : decode cX1_digestPerson 56 = .ok (.lmul, 1) := by decide +kernel
theorem dX1_digestPerson_57 : decode cX1_digestPerson 57 = .ok (.aload_n 0, 1) := by decide +kernel
theorem dX1_digestPerson_58 : decode cX1_digestPerson 58 = .ok (.getfield 21, 3) := by decide +kernel
theorem dX1_digestPerson_61 : decode cX1_digestPerson 61 = .ok (.iload_n 3, 1) := by decide +kernel
theorem dX1_digestPerson_62 : decode cX1_digestPerson 62 = .ok (.aaload, 1) := by decide +kernel
theorem dX1_digestPerson_63 : decode cX1_digestPerson 63 = .ok (.iload 6, 2) := by decide +kernel
theorem dX1_digestPerson_65 : decode cX1_digestPerson 65 = .ok (.iaload, 1) := by decide +kernel
theorem dX1_digestPerson_66 : decode cX1_digestPerson 66 = .ok (.i2l, 1) := by decide +kernel
theorem dX1_digestPerson_67 : decode cX1_digestPerson 67 = .ok (.ladd, 1) := by decide +kernel
theorem dX1_digestPerson_68 : decode cX1_digestPerson 68 = .ok (.lstore 4, 2) := by decide +kernel
theorem dX1_digestPerson_70 : decode cX1_digestPerson 70 = .ok (.iinc 6 1, 3) := by decide +kernel
theorem dX1_digestPerson_73 : decode cX1_digestPerson 73 = .ok (.goto (-31), 3) := by decide +kernel
theorem dX1_digestPerson_76 : decode cX1_digestPerson 76 = .ok (.iconst 0, 1) := by decide +kernel
theorem dX1_digestPerson_77 : decode cX1_digestPerson 77 = .ok (.istore 6, 2) := by decide +kernel
theorem dX1_digestPerson_79 : decode cX1_digestPerson 79 = .ok (.iload 6, 2) := by decide +kernel
theorem dX1_digestPerson_81 : decode cX1_digestPerson 81 = .ok (.aload_n 0, 1) := by decide +kernel
theorem dX1_digestPerson_82 : decode cX1_digestPerson 82 = .ok (.getfield 31, 3) := by decide +kernel
theorem dX1_digestPerson_85 : decode cX1_digestPerson 85 = .ok (.if_icmp .ge 28, 3) := by decide +kernel
theorem dX1_digestPerson_88 : decode cX1_digestPerson 88 = .ok (.ldc2_w 68, 3) := by decide +kernel
theorem dX1_digestPerson_91 : decode cX1_digestPerson 91 = .ok (.lload 4, 2) := by decide +kernel
theorem dX1_digestPerson_93 : decode cX1_digestPerson 93 = .ok (.lmul, 1) := by decide +kernel
theorem dX1_digestPerson_94 : decode cX1_digestPerson 94 = .ok (.aload_n 0, 1) := by decide +kernel
theorem dX1_digestPerson_95 : decode cX1_digestPerson 95 = .ok (.getfield 24, 3) := by decide +kernel
theorem dX1_digestPerson_98 : decode cX1_digestPerson 98 = .ok (.iload_n 3, 1) := by decide +kernel
theorem dX1_digestPerson_99 : decode cX1_digestPerson 99 = .ok (.aaload, 1) := by decide +kernel
theorem dX1_digestPerson_100 : decode cX1_digestPerson 100 = .ok (.iload 6, 2) := by decide +kernel
theorem dX1_digestPerson_102 : decode cX1_digestPerson 102 = .ok (.iaload, 1) := by decide +kernel
theorem dX1_digestPerson_103 : decode cX1_digestPerson 103 = .ok (.i2l, 1) := by decide +kernel
theorem dX1_digestPerson_104 : decode cX1_digestPerson 104 = .ok (.ladd, 1) := by decide +kernel
theorem dX1_digestPerson_105 : decode cX1_digestPerson 105 = .ok (.lstore 4, 2) := by decide +kernel
theorem dX1_digestPerson_107 : decode cX1_digestPerson 107 = .ok (.iinc 6 1, 3) := by decide +kernel
theorem dX1_digestPerson_110 : decode cX1_digestPerson 110 = .ok (.goto (-31), 3) := by decide +kernel
theorem dX1_digestPerson_113 : decode cX1_digestPerson 113 = .ok (.lload 4, 2) := by decide +kernel
theorem dX1_digestPerson_115 : decode cX1_digestPerson 115 = .ok (.lreturn, 1) := by decide +kernel
theorem dX2_init_0 : decode cX2_init 0 = .ok (.aload_n 0, 1) := by decide +kernel
theorem dX2_init_1 : decode cX2_init 1 = .ok (.invokespecial 3, 3) := by decide +kernel
theorem dX2_init_4 : decode cX2_init 4 = .ok (.aload_n 0, 1) := by decide +kernel
theorem dX2_init_5 : decode cX2_init 5 = .ok (.bipush 31, 2) := by decide +kernel
theorem dX2_init_7 : decode cX2_init 7 = .ok (.bipush 12, 2) := by decide +kernel
theorem dX2_init_9 : decode cX2_init 9 = .ok (.multianewarray 9 2, 4) := by decide +kernel
theorem dX2_init_13 : decode cX2_init 13 = .ok (.putfield 11, 3) := by decide +kernel
theorem dX2_init_16 : decode cX2_init 16 = .ok (.aload_n 0, 1) := by decide +kernel
theorem dX2_init_17 : decode cX2_init 17 = .ok (.iconst 0, 1) := by decide +kernel
theorem dX2_init_18 : decode cX2_init 18 = .ok (.putfield 16, 3) := by decide +kernel
theorem dX2_init_21 : decode cX2_init 21 = .ok (.aload_n 0, 1) := by decide +kernel
theorem dX2_init_22 : decode cX2_init 22 = .ok (.aload_n 1, 1) := by decide +kernel
theorem dX2_init_23 : decode cX2_init 23 = .ok (.putfield 20, 3) := by decide +kernel
theorem dX2_init_26 : decode cX2_init 26 = .ok (.aload_n 0, 1) := by decide +kernel
theorem dX2_init_27 : decode cX2_init 27 = .ok (.aload_n 2, 1) := by decide +kernel
theorem dX2_init_28 : decode cX2_init 28 = .ok (.putfield 24, 3) := by decide +kernel
theorem dX2_init_31 : decode cX2_init 31 = .ok (.return_, 1) := by decide +kernel
set_option maxRecDepth 20000 in
theorem ggX2_playAtMost_X2_noteVoices : GoodIn wsX2_playAtMost wsX2_noteVoices := goodIn_r _ [9, 10, 11, 12, 13, 14, 15, 16, 17, 18, 19, 20, 21, 103, 104, 105, 106, 107, 108, 109, 110, 111, 112, 113, 114, 115, 116] (by decide +kernel) (by decide +kernel)
set_option maxRecDepth 20000 in
theorem gX2_playAtMost_X2_noteVoices : GoodIn wsX2_playAtMost (wsV RX2 31 RX2 yX2_noteVoices wsX2_noteVoices) := goodIn_app (goodIn_of _ (by decide +kernel)) ggX2_playAtMost_X2_noteVoices
set_option maxRecDepth 20000 in
theorem ggX2_playAtMost_X2_doRound : GoodIn wsX2_playAtMost wsX2_doRound := goodIn_r _ [25, 10, 11, 26, 27, 28, 29, 30, 31, 32, 33, 34, 35, 36, 37, 38, 39, 40, 41, 42, 43, 44, 45, 46, 16, 47, 48, 20, 49, 50, 51, 52, 53, 54, 55, 56, 57, 58, 59, 60, 61, 62, 63, 64, 65, 66, 67, 68, 69, 70, 71, 72, 73, 74, 75, 76, 77, 78, 79, 80, 81, 82, 83, 84, 85, 86, 87, 18, 88, 89, 90, 91, 92, 93, 94, 103, 104, 105, 106, 107, 108, 109, 110, 111, 112, 113, 114, 115, 116, 117, 118, 119, 120, 121, 122, 123, 124, 125, 126] (by decide +kernel) (by decide +kernel)
set_option maxRecDepth 20000 in
theorem gX2_playAtMost_X2_doRound : GoodIn wsX2_playAtMost (wsV RX2 35 RX2 yX2_doRound wsX2_doRound) := goodIn_app (goodIn_of _ (by decide +kernel)) ggX2_playAtMost_X2_doRound
set_option maxRecDepth 20000 in
theorem ggX2_playAtMost_X2_judge : GoodIn wsX2_playAtMost wsX2_judge := goodIn_r _ [98, 1, 2, 99, 100, 101, 8, 102, 10, 11, 12, 103, 104, 105, 106, 107, 108, 109, 110, 111, 112, 113, 114, 115, 116] (by decide +kernel) (by decide +kernel)
set_option maxRecDepth 20000 in
theorem gX2_playAtMost_X2_judge : GoodIn wsX2_playAtMost (wsV RX2 45 RX2 yX2_judge wsX2_judge) := goodIn_app (goodIn_of _ (by decide +kernel)) ggX2_playAtMost_X2_judge
theorem dX2_playAtMost_0 : decode cX2_playAtMost 0 = .ok (.aload_n 0, 1) := by decide +kernel
theorem dX2_playAtMost_1 : decode cX2_playAtMost 1 = .ok (.iconst 0, 1) := by decide +kernel
theorem dX2_playAtMost_2 : decode cX2_playAtMost 2 = .ok (.putfield 16, 3) := by decide +kernel
theorem dX2_playAtMost_5 : decode cX2_playAtMost 5 = .ok (.aload_n 0, 1) := by decide +kernel
theorem dX2_playAtMost_6 : decode cX2_playAtMost 6 = .ok (.iconst 0, 1) := by decide +kernel
theorem dX2_playAtMost_7 : decode cX2_playAtMost 7 = .ok (.putfield 28, 3) := by decide +kernel
theorem dX2_playAtMost_10 : decode cX2_playAtMost 10 = .ok (.aload_n 0, 1) := by decide +kernel
theorem dX2_playAtMost_11 : decode cX2_playAtMost 11 = .ok (.iconst 0, 1) := by decide +kernel
theorem dX2_playAtMost_12 : decode cX2_playAtMost 12 = .ok (.invokevirtual 31, 3) := by decide +kernel
theorem dX2_playAtMost_15 : decode cX2_playAtMost 15 = .ok (.iconst 0, 1) := by decide +kernel
theorem dX2_playAtMost_16 : decode cX2_playAtMost 16 = .ok (.istore_n 2, 1) := by decide +kernel
theorem dX2_playAtMost_17 : decode cX2_playAtMost 17 = .ok (.iload_n 2, 1) := by decide +kernel
theorem dX2_playAtMost_18 : decode cX2_playAtMost 18 = .ok (.iload_n 1, 1) := by decide +kernel
theorem dX2_playAtMost_19 : decode cX2_playAtMost 19 = .ok (.if_icmp .ge 58, 3) := by decide +kernel
theorem dX2_playAtMost_22 : decode cX2_playAtMost 22 = .ok (.iload_n 2, 1) := by decide +kernel
theorem dX2_playAtMost_23 : decode cX2_playAtMost 23 = .ok (.bipush 30, 2) := by decide +kernel
theorem dX2_playAtMost_25 : decode cX2_playAtMost 25 = .ok (.if_icmp .ge 52, 3) := by decide +kernel
theorem dX2_playAtMost_28 : decode cX2_playAtMost 28 = .ok (.aload_n 0, 1) := by decide +kernel
theorem dX2_playAtMost_29 : decode cX2_playAtMost 29 = .ok (.getfield 16, 3) := by decide +kernel
theorem dX2_playAtMost_32 : decode cX2_playAtMost 32 = .ok (.ifCond .ne 45, 3) := by decide +kernel
theorem dX2_playAtMost_35 : decode cX2_playAtMost 35 = .ok (.aload_n 0, 1) := by decide +kernel
theorem dX2_playAtMost_36 : decode cX2_playAtMost 36 = .ok (.invokevirtual 35, 3) := by decide +kernel
theorem dX2_playAtMost_39 : decode cX2_playAtMost 39 = .ok (.istore_n 3, 1) := by decide +kernel
theorem dX2_playAtMost_40 : decode cX2_playAtMost 40 = .ok (.iinc 2 1, 3) := by decide +kernel
theorem dX2_playAtMost_43 : decode cX2_playAtMost 43 = .ok (.aload_n 0, 1) := by decide +kernel
theorem dX2_playAtMost_44 : decode cX2_playAtMost 44 = .ok (.dup, 1) := by decide +kernel
theorem dX2_playAtMost_45 : decode cX2_playAtMost 45 = .ok (.getfield 39, 3) := by decide +kernel
theorem dX2_playAtMost_48 : decode cX2_playAtMost 48 = .ok (.iconst 1, 1) := by decide +kernel
theorem dX2_playAtMost_49 : decode cX2_playAtMost 49 = .ok (.iadd, 1) := by decide +kernel
theorem dX2_playAtMost_50 : decode cX2_playAtMost 50 = .ok (.putfield 39, 3) := by decide +kernel
theorem dX2_playAtMost_53 : decode cX2_playAtMost 53 = .ok (.aload_n 0, 1) := by decide +kernel
theorem dX2_playAtMost_54 : decode cX2_playAtMost 54 = .ok (.dup, 1) := by decide +kernel
theorem dX2_playAtMost_55 : decode cX2_playAtMost 55 = .ok (.getfield 42, 3) := by decide +kernel
theorem dX2_playAtMost_58 : decode cX2_playAtMost 58 = .ok (.iload_n 3, 1) := by decide +kernel
theorem dX2_playAtMost_59 : decode cX2_playAtMost 59 = .ok (.iadd, 1) := by decide +kernel
theorem dX2_playAtMost_60 : decode cX2_playAtMost 60 = .ok (.putfield 42, 3) := by decide +kernel
theorem dX2_playAtMost_63 : decode cX2_playAtMost 63 = .ok (.aload_n 0, 1) := by decide +kernel
theorem dX2_playAtMost_64 : decode cX2_playAtMost 64 = .ok (.iload_n 2, 1) := by decide +kernel
theorem dX2_playAtMost_65 : decode cX2_playAtMost 65 = .ok (.invokevirtual 31, 3) := by decide +kernel
theorem dX2_playAtMost_68 : decode cX2_playAtMost 68 = .ok (.aload_n 0, 1) := by decide +kernel
theorem dX2_playAtMost_69 : decode cX2_playAtMost 69 = .ok (.iload_n 2, 1) := by decide +kernel
theorem dX2_playAtMost_70 : decode cX2_playAtMost 70 = .ok (.iload_n 3, 1) := by decide +kernel
theorem dX2_playAtMost_71 : decode cX2_playAtMost 71 = .ok (.invokevirtual 45, 3) := by decide +kernel
theorem dX2_playAtMost_74 : decode cX2_playAtMost 74 = .ok (.goto (-57), 3) := by decide +kernel
theorem dX2_playAtMost_77 : decode cX2_playAtMost 77 = .ok (.iload_n 2, 1) := by decide +kernel
theorem dX2_playAtMost_78 : decode cX2_playAtMost 78 = .ok (.ireturn, 1) := by decide +kernel
set_option maxRecDepth 20000 in
theorem ggX2_doRound_X3_findFor : GoodIn wsX2_doRound wsX3_findFor := goodIn_r _ [10, 11, 12, 13, 14, 15, 16, 17, 18, 19, 20, 21, 22, 23, 24, 25, 26, 27, 28, 29, 30, 31, 32, 33, 34, 35, 9, 36, 37, 38, 39, 40, 41, 42, 43, 44, 45, 46, 47, 48, 49, 50, 51, 52, 53, 54, 55, 56, 57, 58, 59, 60, 61, 62, 89, 90, 91, 92, 93, 94, 95, 96, 97, 98, 82, 83, 84, 85, 86, 87, 88] (by decide +kernel) (by decide +kernel)
set_option maxRecDepth 20000 in
theorem gX2_doRound_X3_findFor : GoodIn wsX2_doRound (wsV RX2 58 RX3 yX3_findFor wsX3_findFor) := goodIn_app (goodIn_of _ (by decide +kernel)) ggX2_doRound_X3_findFor
set_option maxRecDepth 20000 in
theorem ggX2_doRound_X1_gainOf : GoodIn wsX2_doRound wsX1_gainOf := goodIn_r _ [66, 67, 68, 28, 29, 30, 24, 31, 32, 26, 27, 69, 39, 40, 82, 83, 84, 85, 86, 87, 88] (by decide +kernel) (by decide +kernel)
set_option maxRecDepth 20000 in
theorem gX2_doRound_X1_gainOf : GoodIn wsX2_doRound (wsV RX2 66 RX1 yX1_gainOf wsX1_gainOf) := goodIn_app (goodIn_of _ (by decide +kernel)) ggX2_doRound_X1_gainOf
set_option maxRecDepth 20000 in
theorem ggX2_doRound_X3_giveTo : GoodIn wsX2_doRound wsX3_giveTo := goodIn_r _ [73, 54, 11, 74, 18, 55, 56, 57, 58, 89, 90, 91, 92, 93, 94, 95, 96, 97, 98, 82, 83, 84, 85, 86, 87, 88] (by decide +kernel) (by decide +kernel)
set_option maxRecDepth 20000 in
theorem gX2_doRound_X3_giveTo : GoodIn wsX2_doRound (wsV RX2 70 RX3 yX3_giveTo wsX3_giveTo) := goodIn_app (goodIn_of _ (by decide +kernel)) ggX2_doRound_X3_giveTo
theorem dX2_doRound_0 : decode cX2_doRound 0 = .ok (.iconst 0, 1) := by decide +kernel
theorem dX2_doRound_1 : decode cX2_doRound 1 = .ok (.istore_n 1, 1) := by decide +kernel
theorem dX2_doRound_2 : decode cX2_doRound 2 = .ok (.iconst 0, 1) := by decide +kernel
theorem dX2_doRound_3 : decode cX2_doRound 3 = .ok (.istore_n 2, 1) := by decide +kernel
theorem dX2_doRound_4 : decode cX2_doRound 4 = .ok (.iload_n 2, 1) := by decide +kernel
theorem dX2_doRound_5 : decode cX2_doRound 5 = .ok (.aload_n 0, 1) := by decide +kernel
theorem dX2_doRound_6 : decode cX2_doRound 6 = .ok (.getfield 20, 3) := by decide +kernel
theorem dX2_doRound_9 : decode cX2_doRound 9 = .ok (.getfield 49, 3) := by decide +kernel
theorem dX2_doRound_12 : decode cX2_doRound 12 = .ok (.if_icmp .ge 58, 3) := by decide +kernel
theorem dX2_doRound_15 : decode cX2_doRound 15 = .ok (.aload_n 0, 1) := by decide +kernel
theorem dX2_doRound_16 : decode cX2_doRound 16 = .ok (.getfield 20, 3) := by decide +kernel
theorem dX2_doRound_19 : decode cX2_doRound 19 = .ok (.getfield 54, 3) := by decide +kernel
theorem dX2_doRound_22 : decode cX2_doRound 22 = .ok (.iload_n 2, 1) := by decide +kernel
theorem dX2_doRound_23 : decode cX2_doRound 23 = .ok (.baload, 1) := by decide +kernel
theorem dX2_doRound_24 : decode cX2_doRound 24 = .ok (.ifCond .eq 40, 3) := by decide +kernel
theorem dX2_doRound_27 : decode cX2_doRound 27 = .ok (.aload_n 0, 1) := by decide +kernel
theorem dX2_doRound_28 : decode cX2_doRound 28 = .ok (.getfield 24, 3) := by decide +kernel
theorem dX2_doRound_31 : decode cX2_doRound 31 = .ok (.iload_n 2, 1) := by decide +kernel
theorem dX2_doRound_32 : decode cX2_doRound 32 = .ok (.invokevirtual 58, 3) := by decide +kernel
theorem dX2_doRound_35 : decode cX2_doRound 35 = .ok (.aload_n 0, 1) := by decide +kernel
theorem dX2_doRound_36 : decode cX2_doRound 36 = .ok (.getfield 24, 3) := by decide +kernel
theorem dX2_doRound_39 : decode cX2_doRound 39 = .ok (.getfield 63, 3) := by decide +kernel
theorem dX2_doRound_42 : decode cX2_doRound 42 = .ok (.aload_n 0, 1) := by decide +kernel
theorem dX2_doRound_43 : decode cX2_doRound 43 = .ok (.getfield 20, 3) := by decide +kernel
theorem dX2_doRound_46 : decode cX2_doRound 46 = .ok (.iload_n 2, 1) := by decide +kernel
theorem dX2_doRound_47 : decode cX2_doRound 47 = .ok (.invokevirtual 66, 3) := by decide +kernel
theorem dX2_doRound_50 : decode cX2_doRound 50 = .ok (.if_icmp .le 14, 3) := by decide +kernel
theorem dX2_doRound_53 : decode cX2_doRound 53 = .ok (.aload_n 0, 1) := by decide +kernel
theorem dX2_doRound_54 : decode cX2_doRound 54 = .ok (.getfield 24, 3) := by decide +kernel
theorem dX2_doRound_57 : decode cX2_doRound 57 = .ok (.iload_n 2, 1) := by decide +kernel
theorem dX2_doRound_58 : decode cX2_doRound 58 = .ok (.invokevirtual 70, 3) := by decide +kernel
theorem dX2_doRound_61 : decode cX2_doRound 61 = .ok (.iinc 1 1, 3) := by decide +kernel
theorem dX2_doRound_64 : decode cX2_doRound 64 = .ok (.iinc 2 1, 3) := by decide +kernel
theorem dX2_doRound_67 : decode cX2_doRound 67 = .ok (.goto (-63), 3) := by decide +kernel
theorem dX2_doRound_70 : decode cX2_doRound 70 = .ok (.iload_n 1, 1) := by decide +kernel
theorem dX2_doRound_71 : decode cX2_doRound 71 = .ok (.ireturn, 1) := by decide +kernel
set_option maxRecDepth 20000 in
theorem ggX2_noteVoices_X1_voicesInOne : GoodIn wsX2_noteVoices wsX1_voicesInOne := goodIn_r _ [8, 9, 10, 11, 12, 20, 21, 22, 23, 24, 25, 26] (by decide +kernel) (by decide +kernel)
set_option maxRecDepth 20000 in
theorem gX2_noteVoices_X1_voicesInOne : GoodIn wsX2_noteVoices (wsV RX2 73 RX1 yX1_voicesInOne wsX1_voicesInOne) := goodIn_app (goodIn_of _ (by decide +kernel)) ggX2_noteVoices_X1_voicesInOne
theorem dX2_noteVoices_0 : decode cX2_noteVoices 0 = .ok (.iconst 0, 1) := by decide +kernel
theorem dX2_noteVoices_1 : decode cX2_noteVoices 1 = .ok (.istore_n 2, 1) := by decide +kernel
theorem dX2_noteVoices_2 : decode cX2_noteVoices 2 = .ok (.iload_n 2, 1) := by decide +kernel
theorem dX2_noteVoices_3 : decode cX2_noteVoices 3 = .ok (.aload_n 0, 1) := by decide +kernel
theorem dX2_noteVoices_4 : decode cX2_noteVoices 4 = .ok (.getfield 20, 3) := by decide +kernel
theorem dX2_noteVoices_7 : decode cX2_noteVoices 7 = .ok (.getfield 49, 3) := by decide +kernel
theorem dX2_noteVoices_10 : decode cX2_noteVoices 10 = .ok (.if_icmp .ge 25, 3) := by decide +kernel
theorem dX2_noteVoices_13 : decode cX2_noteVoices 13 = .ok (.aload_n 0, 1) := by decide +kernel
theorem dX2_noteVoices_14 : decode cX2_noteVoices 14 = .ok (.getfield 11, 3) := by decide +kernel
theorem dX2_noteVoices_17 : decode cX2_noteVoices 17 = .ok (.iload_n 1, 1) := by decide +kernel
theorem dX2_noteVoices_18 : decode cX2_noteVoices 18 = .ok (.aaload, 1) := by decide +kernel
theorem dX2_noteVoices_19 : decode cX2_noteVoices 19 = .ok (.iload_n 2, 1) := by decide +kernel
theorem dX2_noteVoices_20 : decode cX2_noteVoices 20 = .ok (.aload_n 0, 1) := by decide +kernel
theorem dX2_noteVoices_21 : decode cX2_noteVoices 21 = .ok (.getfield 20, 3) := by decide +kernel
theorem dX2_noteVoices_24 : decode cX2_noteVoices 24 = .ok (.iload_n 2, 1) := by decide +kernel
theorem dX2_noteVoices_25 : decode cX2_noteVoices 25 = .ok (.invokevirtual 73, 3) := by decide +kernel
theorem dX2_noteVoices_28 : decode cX2_noteVoices 28 = .ok (.lastore, 1) := by decide +kernel
theorem dX2_noteVoices_29 : decode cX2_noteVoices 29 = .ok (.iinc 2 1, 3) := by decide +kernel
theorem dX2_noteVoices_32 : decode cX2_noteVoices 32 = .ok (.goto (-30), 3) := by decide +kernel
theorem dX2_noteVoices_35 : decode cX2_noteVoices 35 = .ok (.return_, 1) := by decide +kernel
set_option maxRecDepth 20000 in
theorem ggX2_judge_X2_isSameTrail : GoodIn wsX2_judge wsX2_isSameTrail := goodIn_r _ [7, 8, 9, 10, 11, 12, 13, 14, 15, 16, 17, 18, 19, 20, 21, 22, 23, 24] (by decide +kernel) (by decide +kernel)
set_option maxRecDepth 20000 in
theorem gX2_judge_X2_isSameTrail : GoodIn wsX2_judge (wsV RX2 77 RX2 yX2_isSameTrail wsX2_isSameTrail) := goodIn_app (goodIn_of _ (by decide +kernel)) ggX2_judge_X2_isSameTrail
theorem dX2_judge_0 : decode cX2_judge 0 = .ok (.iload_n 2, 1) := by decide +kernel
theorem dX2_judge_1 : decode cX2_judge 1 = .ok (.ifCond .ne 9, 3) := by decide +kernel
theorem dX2_judge_4 : decode cX2_judge 4 = .ok (.aload_n 0, 1) := by decide +kernel
theorem dX2_judge_5 : decode cX2_judge 5 = .ok (.iconst 1, 1) := by decide +kernel
theorem dX2_judge_6 : decode cX2_judge 6 = .ok (.putfield 16, 3) := by decide +kernel
theorem dX2_judge_9 : decode cX2_judge 9 = .ok (.return_, 1) := by decide +kernel
theorem dX2_judge_10 : decode cX2_judge 10 = .ok (.iconst 0, 1) := by decide +kernel
theorem dX2_judge_11 : decode cX2_judge 11 = .ok (.istore_n 3, 1) := by decide +kernel
theorem dX2_judge_12 : decode cX2_judge 12 = .ok (.iload_n 3, 1) := by decide +kernel
theorem dX2_judge_13 : decode cX2_judge 13 = .ok (.iload_n 1, 1) := by decide +kernel
theorem dX2_judge_14 : decode cX2_judge 14 = .ok (.if_icmp .ge 30, 3) := by decide +kernel
theorem dX2_judge_17 : decode cX2_judge 17 = .ok (.aload_n 0, 1) := by decide +kernel
theorem dX2_judge_18 : decode cX2_judge 18 = .ok (.iload_n 3, 1) := by decide +kernel
theorem dX2_judge_19 : decode cX2_judge 19 = .ok (.iload_n 1, 1) := by decide +kernel
theorem dX2_judge_20 : decode cX2_judge 20 = .ok (.invokevirtual 77, 3) := by decide +kernel
theorem dX2_judge_23 : decode cX2_judge 23 = .ok (.ifCond .eq 15, 3) := by decide +kernel
theorem dX2_judge_26 : decode cX2_judge 26 = .ok (.aload_n 0, 1) := by decide +kernel
theorem dX2_judge_27 : decode cX2_judge 27 = .ok (.iconst 2, 1) := by decide +kernel
theorem dX2_judge_28 : decode cX2_judge 28 = .ok (.putfield 16, 3) := by decide +kernel
theorem dX2_judge_31 : decode cX2_judge 31 = .ok (.aload_n 0, 1) := by decide +kernel
theorem dX2_judge_32 : decode cX2_judge 32 = .ok (.iload_n 1, 1) := by decide +kernel
theorem dX2_judge_33 : decode cX2_judge 33 = .ok (.iload_n 3, 1) := by decide +kernel
theorem dX2_judge_34 : decode cX2_judge 34 = .ok (.isub, 1) := by decide +kernel
theorem dX2_judge_35 : decode cX2_judge 35 = .ok (.putfield 28, 3) := by decide +kernel
theorem dX2_judge_38 : decode cX2_judge 38 = .ok (.iinc 3 1, 3) := by decide +kernel
theorem dX2_judge_41 : decode cX2_judge 41 = .ok (.goto (-29), 3) := by decide +kernel
theorem dX2_judge_44 : decode cX2_judge 44 = .ok (.return_, 1) := by decide +kernel
theorem dX2_isSameTrail_0 : decode cX2_isSameTrail 0 = .ok (.iconst 0, 1) := by decide +kernel
theorem dX2_isSameTrail_1 : decode cX2_isSameTrail 1 = .ok (.istore_n 3, 1) := by decide +kernel
theorem dX2_isSameTrail_2 : decode cX2_isSameTrail 2 = .ok (.iload_n 3, 1) := by decide +kernel
theorem dX2_isSameTrail_3 : decode cX2_isSameTrail 3 = .ok (.aload_n 0, 1) := by decide +kernel
theorem dX2_isSameTrail_4 : decode cX2_isSameTrail 4 = .ok (.getfield 20, 3) := by decide +kernel
theorem dX2_isSameTrail_7 : decode cX2_isSameTrail 7 = .ok (.getfield 49, 3) := by decide +kernel
theorem dX2_isSameTrail_10 : decode cX2_isSameTrail 10 = .ok (.if_icmp .ge 31, 3) := by decide +kernel
theorem dX2_isSameTrail_13 : decode cX2_isSameTrail 13 = .ok (.aload_n 0, 1) := by decide +kernel
theorem dX2_isSameTrail_14 : decode cX2_isSameTrail 14 = .ok (.getfield 11, 3) := by decide +kernel
theorem dX2_isSameTrail_17 : decode cX2_isSameTrail 17 = .ok (.iload_n 1, 1) := by decide +kernel
theorem dX2_isSameTrail_18 : decode cX2_isSameTrail 18 = .ok (.aaload, 1) := by decide +kernel
theorem dX2_isSameTrail_19 : decode cX2_isSameTrail 19 = .ok (.iload_n 3, 1) := by decide +kernel
theorem dX2_isSameTrail_20 : decode cX2_isSameTrail 20 = .ok (.laload, 1) := by decide +kernel
theorem dX2_isSameTrail_21 : decode cX2_isSameTrail 21 = .ok (.aload_n 0, 1) := by decide +kernel
theorem dX2_isSameTrail_22 : decode cX2_isSameTrail 22 = .ok (.getfield 11, 3) := by decide +kernel
theorem dX2_isSameTrail_25 : decode cX2_isSameTrail 25 = .ok (.iload_n 2, 1) := by decide +kernel
theorem dX2_isSameTrail_26 : decode cX2_isSameTrail 26 = .ok (.aaload, 1) := by decide +kernel
theorem dX2_isSameTrail_27 : decode cX2_isSameTrail 27 = .ok (.iload_n 3, 1) := by decide +kernel
theorem dX2_isSameTrail_28 : decode cX2_isSameTrail 28 = .ok (.laload, 1) := by decide +kernel
theorem dX2_isSameTrail_29 : decode cX2_isSameTrail 29 = .ok (.lcmp, 1) := by decide +kernel
theorem dX2_isSameTrail_30 : decode cX2_isSameTrail 30 = .ok (.ifCond .eq 5, 3) := by decide +kernel
theorem dX2_isSameTrail_33 : decode cX2_isSameTrail 33 = .ok (.iconst 0, 1) := by decide +kernel
theorem dX2_isSameTrail_34 : decode cX2_isSameTrail 34 = .ok (.ireturn, 1) := by decide +kernel
theorem dX2_isSameTrail_35 : decode cX2_isSameTrail 35 = .ok (.iinc 3 1, 3) := by decide +kernel
theorem dX2_isSameTrail_38 : decode cX2_isSameTrail 38 = .ok (.goto (-36), 3) := by decide +kernel
theorem dX2_isSameTrail_41 : decode cX2_isSameTrail 41 = .ok (.iconst 1, 1) := by decide +kernel
theorem dX2_isSameTrail_42 : decode cX2_isSameTrail 42 = .ok (.ireturn, 1) := by decide +kernel
theorem dX3_init_0 : decode cX3_init 0 = .ok (.aload_n 0, 1) := by decide +kernel
theorem dX3_init_1 : decode cX3_init 1 = .ok (.invokespecial 3, 3) := by decide +kernel
theorem dX3_init_4 : decode cX3_init 4 = .ok (.aload_n 0, 1) := by decide +kernel
theorem dX3_init_5 : decode cX3_init 5 = .ok (.bipush 6, 2) := by decide +kernel
theorem dX3_init_7 : decode cX3_init 7 = .ok (.newarray .int, 2) := by decide +kernel
theorem dX3_init_9 : decode cX3_init 9 = .ok (.putfield 9, 3) := by decide +kernel
theorem dX3_init_12 : decode cX3_init 12 = .ok (.aload_n 0, 1) := by decide +kernel
theorem dX3_init_13 : decode cX3_init 13 = .ok (.bipush 6, 2) := by decide +kernel
theorem dX3_init_15 : decode cX3_init 15 = .ok (.iconst 3, 1) := by decide +kernel
theorem dX3_init_16 : decode cX3_init 16 = .ok (.multianewarray 15 2, 4) := by decide +kernel
theorem dX3_init_20 : decode cX3_init 20 = .ok (.putfield 17, 3) := by decide +kernel
theorem dX3_init_23 : decode cX3_init 23 = .ok (.aload_n 0, 1) := by decide +kernel
theorem dX3_init_24 : decode cX3_init 24 = .ok (.bipush 6, 2) := by decide +kernel
theorem dX3_init_26 : decode cX3_init 26 = .ok (.iconst 3, 1) := by decide +kernel
theorem dX3_init_27 : decode cX3_init 27 = .ok (.multianewarray 15 2, 4) := by decide +kernel
theorem dX3_init_31 : decode cX3_init 31 = .ok (.putfield 20, 3) := by decide +kernel
theorem dX3_init_34 : decode cX3_init 34 = .ok (.aload_n 0, 1) := by decide +kernel
theorem dX3_init_35 : decode cX3_init 35 = .ok (.bipush 7, 2) := by decide +kernel
theorem dX3_init_37 : decode cX3_init 37 = .ok (.newarray .int, 2) := by decide +kernel
theorem dX3_init_39 : decode cX3_init 39 = .ok (.putfield 23, 3) := by decide +kernel
theorem dX3_init_42 : decode cX3_init 42 = .ok (.aload_n 0, 1) := by decide +kernel
theorem dX3_init_43 : decode cX3_init 43 = .ok (.bipush 6, 2) := by decide +kernel
theorem dX3_init_45 : decode cX3_init 45 = .ok (.newarray .int, 2) := by decide +kernel
theorem dX3_init_47 : decode cX3_init 47 = .ok (.putfield 26, 3) := by decide +kernel
theorem dX3_init_50 : decode cX3_init 50 = .ok (.aload_n 0, 1) := by decide +kernel
theorem dX3_init_51 : decode cX3_init 51 = .ok (.bipush 6, 2) := by decide +kernel
theorem dX3_init_53 : decode cX3_init 53 = .ok (.newarray .int, 2) := by decide +kernel
theorem dX3_init_55 : decode cX3_init 55 = .ok (.putfield 29, 3) := by decide +kernel
theorem dX3_init_58 : decode cX3_init 58 = .ok (.aload_n 0, 1) := by decide +kernel
theorem dX3_init_59 : decode cX3_init 59 = .ok (.aload_n 1, 1) := by decide +kernel
theorem dX3_init_60 : decode cX3_init 60 = .ok (.putfield 32, 3) := by decide +kernel
theorem dX3_init_63 : decode cX3_init 63 = .ok (.return_, 1) := by decide +kernel
set_option maxRecDepth 20000 in
theorem ggX3_findFor_X1_countWithout : GoodIn wsX3_findFor wsX1_countWithout := goodIn_r _ [15, 16, 17, 18, 19, 20, 14, 21, 22, 64, 65, 66, 67, 68, 69, 70] (by decide +kernel) (by decide +kernel)
set_option maxRecDepth 20000 in
theorem gX3_findFor_X1_countWithout : GoodIn wsX3_findFor (wsV RX3 55 RX1 yX1_countWithout wsX1_countWithout) := goodIn_app (goodIn_of _ (by decide +kernel)) ggX3_findFor_X1_countWithout
set_option maxRecDepth 20000 in
theorem ggX3_findFor_X3_listChoices : GoodIn wsX3_findFor wsX3_listChoices := goodIn_r _ [27, 28, 29, 30, 14, 31, 32, 33, 34, 26, 35, 36, 10, 54, 55, 56, 57, 58, 59, 60, 61, 62, 63] (by decide +kernel) (by decide +kernel)
set_option maxRecDepth 20000 in
theorem gX3_findFor_X3_listChoices : GoodIn wsX3_findFor (wsV RX3 62 RX3 yX3_listChoices wsX3_listChoices) := goodIn_app (goodIn_of _ (by decide +kernel)) ggX3_findFor_X3_listChoices
set_option maxRecDepth 20000 in
theorem ggX3_findFor_X3_tryFrom : GoodIn wsX3_findFor wsX3_tryFrom := goodIn_r _ [39, 1, 8, 7, 5, 6, 28, 36, 3, 40, 10, 41, 42, 43, 26, 44, 45, 46, 47, 48, 49, 50, 51, 52, 53, 37, 38, 54, 55, 56, 57, 58, 59, 60, 61, 62, 63, 64, 65, 66, 67, 68, 69, 70] (by decide +kernel) (by decide +kernel)
set_option maxRecDepth 20000 in
theorem gX3_findFor_X3_tryFrom : GoodIn wsX3_findFor (va_wsS RX3 66 yX3_tryFrom wsX3_tryFrom) := goodIn_app (goodIn_of _ (by decide +kernel)) ggX3_findFor_X3_tryFrom
theorem dX3_findFor_0 : decode cX3_findFor 0 = .ok (.aload_n 0, 1) := by decide +kernel
theorem dX3_findFor_1 : decode cX3_findFor 1 = .ok (.aload_n 0, 1) := by decide +kernel
theorem dX3_findFor_2 : decode cX3_findFor 2 = .ok (.getfield 32, 3) := by decide +kernel
theorem dX3_findFor_5 : decode cX3_findFor 5 = .ok (.getfield 36, 3) := by decide +kernel
theorem dX3_findFor_8 : decode cX3_findFor 8 = .ok (.iload_n 1, 1) := by decide +kernel
theorem dX3_findFor_9 : decode cX3_findFor 9 = .ok (.iaload, 1) := by decide +kernel
theorem dX3_findFor_10 : decode cX3_findFor 10 = .ok (.putfield 41, 3) := by decide +kernel
theorem dX3_findFor_13 : decode cX3_findFor 13 = .ok (.aload_n 0, 1) := by decide +kernel
theorem dX3_findFor_14 : decode cX3_findFor 14 = .ok (.ldc 45, 2) := by decide +kernel
theorem dX3_findFor_16 : decode cX3_findFor 16 = .ok (.putfield 46, 3) := by decide +kernel
theorem dX3_findFor_19 : decode cX3_findFor 19 = .ok (.aload_n 0, 1) := by decide +kernel
theorem dX3_findFor_20 : decode cX3_findFor 20 = .ok (.iconst 0, 1) := by decide +kernel
theorem dX3_findFor_21 : decode cX3_findFor 21 = .ok (.putfield 49, 3) := by decide +kernel
theorem dX3_findFor_24 : decode cX3_findFor 24 = .ok (.aload_n 0, 1) := by decide +kernel
theorem dX3_findFor_25 : decode cX3_findFor 25 = .ok (.getfield 23, 3) := by decide +kernel
theorem dX3_findFor_28 : decode cX3_findFor 28 = .ok (.aload_n 0, 1) := by decide +kernel
theorem dX3_findFor_29 : decode cX3_findFor 29 = .ok (.getfield 32, 3) := by decide +kernel
theorem dX3_findFor_32 : decode cX3_findFor 32 = .ok (.getfield 52, 3) := by decide +kernel
theorem dX3_findFor_35 : decode cX3_findFor 35 = .ok (.iconst 0, 1) := by decide +kernel
theorem dX3_findFor_36 : decode cX3_findFor 36 = .ok (.iastore, 1) := by decide +kernel
theorem dX3_findFor_37 : decode cX3_findFor 37 = .ok (.aload_n 0, 1) := by decide +kernel
theorem dX3_findFor_38 : decode cX3_findFor 38 = .ok (.getfield 32, 3) := by decide +kernel
theorem dX3_findFor_41 : decode cX3_findFor 41 = .ok (.getfield 52, 3) := by decide +kernel
theorem dX3_findFor_44 : decode cX3_findFor 44 = .ok (.iconst 1, 1) := by decide +kernel
theorem dX3_findFor_45 : decode cX3_findFor 45 = .ok (.isub, 1) := by decide +kernel
theorem dX3_findFor_46 : decode cX3_findFor 46 = .ok (.istore_n 2, 1) := by decide +kernel
theorem dX3_findFor_47 : decode cX3_findFor 47 = .ok (.iload_n 2, 1) := by decide +kernel
theorem dX3_findFor_48 : decode cX3_findFor 48 = .ok (.ifCond .lt 57, 3) := by decide +kernel
theorem dX3_findFor_51 : decode cX3_findFor 51 = .ok (.aload_n 0, 1) := by decide +kernel
theorem dX3_findFor_52 : decode cX3_findFor 52 = .ok (.iload_n 2, 1) := by decide +kernel
theorem dX3_findFor_53 : decode cX3_findFor 53 = .ok (.aload_n 0, 1) := by decide +kernel
theorem dX3_findFor_54 : decode cX3_findFor 54 = .ok (.getfield 32, 3) := by decide +kernel
theorem dX3_findFor_57 : decode cX3_findFor 57 = .ok (.iload_n 1, 1) := by decide +kernel
theorem dX3_findFor_58 : decode cX3_findFor 58 = .ok (.iload_n 2, 1) := by decide +kernel
theorem dX3_findFor_59 : decode cX3_findFor 59 = .ok (.invokevirtual 55, 3) := by decide +kernel
theorem dX3_findFor_62 : decode cX3_findFor 62 = .ok (.aload_n 0, 1) := by decide +kernel
theorem dX3_findFor_63 : decode cX3_findFor 63 = .ok (.getfield 32, 3) := by decide +kernel
theorem dX3_findFor_66 : decode cX3_findFor 66 = .ok (.getfield 59, 3) := by decide +kernel
theorem dX3_findFor_69 : decode cX3_findFor 69 = .ok (.iload_n 1, 1) := by decide +kernel
theorem dX3_findFor_70 : decode cX3_findFor 70 = .ok (.aaload, 1) := by decide +kernel
theorem dX3_findFor_71 : decode cX3_findFor 71 = .ok (.iload_n 2, 1) := by decide +kernel
theorem dX3_findFor_72 : decode cX3_findFor 72 = .ok (.iaload, 1) := by decide +kernel
theorem dX3_findFor_73 : decode cX3_findFor 73 = .ok (.invokevirtual 62, 3) := by decide +kernel
theorem dX3_findFor_76 : decode cX3_findFor 76 = .ok (.aload_n 0, 1) := by decide +kernel
theorem dX3_findFor_77 : decode cX3_findFor 77 = .ok (.getfield 23, 3) := by decide +kernel
theorem dX3_findFor_80 : decode cX3_findFor 80 = .ok (.iload_n 2, 1) := by decide +kernel
theorem dX3_findFor_81 : decode cX3_findFor 81 = .ok (.aload_n 0, 1) := by decide +kernel
theorem dX3_findFor_82 : decode cX3_findFor 82 = .ok (.getfield 23, 3) := by decide +kernel
theorem dX3_findFor_85 : decode cX3_findFor 85 = .ok (.iload_n 2, 1) := by decide +kernel
theorem dX3_findFor_86 : decode cX3_findFor 86 = .ok (.iconst 1, 1) := by decide +kernel
theorem dX3_findFor_87 : decode cX3_findFor 87 = .ok (.iadd, 1) := by decide +kernel
theorem dX3_findFor_88 : decode cX3_findFor 88 = .ok (.iaload, 1) := by decide +kernel
theorem dX3_findFor_89 : decode cX3_findFor 89 = .ok (.aload_n 0, 1) := by decide +kernel
theorem dX3_findFor_90 : decode cX3_findFor 90 = .ok (.getfield 20, 3) := by decide +kernel
theorem dX3_findFor_93 : decode cX3_findFor 93 = .ok (.iload_n 2, 1) := by decide +kernel
theorem dX3_findFor_94 : decode cX3_findFor 94 = .ok (.aaload, 1) := by decide +kernel
theorem dX3_findFor_95 : decode cX3_findFor 95 = .ok (.iconst 0, 1) := by decide +kernel
theorem dX3_findFor_96 : decode cX3_findFor 96 = .ok (.iaload, 1) := by decide +kernel
theorem dX3_findFor_97 : decode cX3_findFor 97 = .ok (.iadd, 1) := by decide +kernel
theorem dX3_findFor_98 : decode cX3_findFor 98 = .ok (.iastore, 1) := by decide +kernel
theorem dX3_findFor_99 : decode cX3_findFor 99 = .ok (.iinc 2 (-1), 3) := by decide +kernel
theorem dX3_findFor_102 : decode cX3_findFor 102 = .ok (.goto (-55), 3) := by decide +kernel
theorem dX3_findFor_105 : decode cX3_findFor 105 = .ok (.aload_n 0, 1) := by decide +kernel
theorem dX3_findFor_106 : decode cX3_findFor 106 = .ok (.iconst 0, 1) := by decide +kernel
theorem dX3_findFor_107 : decode cX3_findFor 107 = .ok (.iconst 0, 1) := by decide +kernel
theorem dX3_findFor_108 : decode cX3_findFor 108 = .ok (.iconst 0, 1) := by decide +kernel
theorem dX3_findFor_109 : decode cX3_findFor 109 = .ok (.invokestatic 66, 3) := by decide +kernel
theorem dX3_findFor_112 : decode cX3_findFor 112 = .ok (.return_, 1) := by decide +kernel
theorem dX3_giveTo_0 : decode cX3_giveTo 0 = .ok (.aload_n 0, 1) := by decide +kernel
theorem dX3_giveTo_1 : decode cX3_giveTo 1 = .ok (.getfield 29, 3) := by decide +kernel
theorem dX3_giveTo_4 : decode cX3_giveTo 4 = .ok (.iconst 0, 1) := by decide +kernel
theorem dX3_giveTo_5 : decode cX3_giveTo 5 = .ok (.aload_n 0, 1) := by decide +kernel
theorem dX3_giveTo_6 : decode cX3_giveTo 6 = .ok (.getfield 32, 3) := by decide +kernel
theorem dX3_giveTo_9 : decode cX3_giveTo 9 = .ok (.getfield 70, 3) := by decide +kernel
theorem dX3_giveTo_12 : decode cX3_giveTo 12 = .ok (.iload_n 1, 1) := by decide +kernel
theorem dX3_giveTo_13 : decode cX3_giveTo 13 = .ok (.aaload, 1) := by decide +kernel
theorem dX3_giveTo_14 : decode cX3_giveTo 14 = .ok (.iconst 0, 1) := by decide +kernel
theorem dX3_giveTo_15 : decode cX3_giveTo 15 = .ok (.aload_n 0, 1) := by decide +kernel
theorem dX3_giveTo_16 : decode cX3_giveTo 16 = .ok (.getfield 32, 3) := by decide +kernel
theorem dX3_giveTo_19 : decode cX3_giveTo 19 = .ok (.getfield 52, 3) := by decide +kernel
theorem dX3_giveTo_22 : decode cX3_giveTo 22 = .ok (.invokestatic 73, 3) := by decide +kernel
theorem dX3_giveTo_25 : decode cX3_giveTo 25 = .ok (.return_, 1) := by decide +kernel
set_option maxRecDepth 20000 in
theorem ggX3_listChoices_X1_gainBy : GoodIn wsX3_listChoices wsX1_gainBy := goodIn_r _ [5] (by decide +kernel) (by decide +kernel)
set_option maxRecDepth 20000 in
theorem gX3_listChoices_X1_gainBy : GoodIn wsX3_listChoices (va_wsS RX3 79 yX1_gainBy wsX1_gainBy) := goodIn_app (goodIn_of _ (by decide +kernel)) ggX3_listChoices_X1_gainBy
set_option maxRecDepth 20000 in
theorem ggX3_listChoices_X3_addChoice : GoodIn wsX3_listChoices wsX3_addChoice := goodIn_r _ [10, 1, 11, 12, 13, 14, 15, 16, 17, 18, 19, 20, 21, 22] (by decide +kernel) (by decide +kernel)
set_option maxRecDepth 20000 in
theorem gX3_listChoices_X3_addChoice : GoodIn wsX3_listChoices (wsV RX3 82 RX3 yX3_addChoice wsX3_addChoice) := goodIn_app (goodIn_of _ (by decide +kernel)) ggX3_listChoices_X3_addChoice
theorem dX3_listChoices_0 : decode cX3_listChoices 0 = .ok (.aload_n 0, 1) := by decide +kernel
theorem dX3_listChoices_1 : decode cX3_listChoices 1 = .ok (.getfield 9, 3) := by decide +kernel
theorem dX3_listChoices_4 : decode cX3_listChoices 4 = .ok (.iload_n 1, 1) := by decide +kernel
theorem dX3_listChoices_5 : decode cX3_listChoices 5 = .ok (.iconst 0, 1) := by decide +kernel
theorem dX3_listChoices_6 : decode cX3_listChoices 6 = .ok (.iastore, 1) := by decide +kernel
theorem dX3_listChoices_7 : decode cX3_listChoices 7 = .ok (.iload_n 3, 1) := by decide +kernel
theorem dX3_listChoices_8 : decode cX3_listChoices 8 = .ok (.ifCond .le 7, 3) := by decide +kernel
theorem dX3_listChoices_11 : decode cX3_listChoices 11 = .ok (.iconst 1, 1) := by decide +kernel
theorem dX3_listChoices_12 : decode cX3_listChoices 12 = .ok (.goto 4, 3) := by decide +kernel
theorem dX3_listChoices_15 : decode cX3_listChoices 15 = .ok (.iconst (-1), 1) := by decide +kernel
theorem dX3_listChoices_16 : decode cX3_listChoices 16 = .ok (.istore 4, 2) := by decide +kernel
theorem dX3_listChoices_18 : decode cX3_listChoices 18 = .ok (.iload_n 2, 1) := by decide +kernel
theorem dX3_listChoices_19 : decode cX3_listChoices 19 = .ok (.iload_n 3, 1) := by decide +kernel
theorem dX3_listChoices_20 : decode cX3_listChoices 20 = .ok (.invokestatic 79, 3) := by decide +kernel
theorem dX3_listChoices_23 : decode cX3_listChoices 23 = .ok (.istore 5, 2) := by decide +kernel
theorem dX3_listChoices_25 : decode cX3_listChoices 25 = .ok (.iload 4, 2) := by decide +kernel
theorem dX3_listChoices_27 : decode cX3_listChoices 27 = .ok (.iload_n 3, 1) := by decide +kernel
theorem dX3_listChoices_28 : decode cX3_listChoices 28 = .ok (.invokestatic 79, 3) := by decide +kernel
theorem dX3_listChoices_31 : decode cX3_listChoices 31 = .ok (.iload 5, 2) := by decide +kernel
theorem dX3_listChoices_33 : decode cX3_listChoices 33 = .ok (.if_icmp .le 18, 3) := by decide +kernel
theorem dX3_listChoices_36 : decode cX3_listChoices 36 = .ok (.aload_n 0, 1) := by decide +kernel
theorem dX3_listChoices_37 : decode cX3_listChoices 37 = .ok (.iload_n 1, 1) := by decide +kernel
theorem dX3_listChoices_38 : decode cX3_listChoices 38 = .ok (.iload 4, 2) := by decide +kernel
theorem dX3_listChoices_40 : decode cX3_listChoices 40 = .ok (.iload_n 2, 1) := by decide +kernel
theorem dX3_listChoices_41 : decode cX3_listChoices 41 = .ok (.isub, 1) := by decide +kernel
theorem dX3_listChoices_42 : decode cX3_listChoices 42 = .ok (.iload 4, 2) := by decide +kernel
theorem dX3_listChoices_44 : decode cX3_listChoices 44 = .ok (.iload_n 3, 1) := by decide +kernel
theorem dX3_listChoices_45 : decode cX3_listChoices 45 = .ok (.invokestatic 79, 3) := by decide +kernel
theorem dX3_listChoices_48 : decode cX3_listChoices 48 = .ok (.invokevirtual 82, 3) := by decide +kernel
theorem dX3_listChoices_51 : decode cX3_listChoices 51 = .ok (.iconst 0, 1) := by decide +kernel
theorem dX3_listChoices_52 : decode cX3_listChoices 52 = .ok (.iload_n 3, 1) := by decide +kernel
theorem dX3_listChoices_53 : decode cX3_listChoices 53 = .ok (.invokestatic 79, 3) := by decide +kernel
theorem dX3_listChoices_56 : decode cX3_listChoices 56 = .ok (.iload 5, 2) := by decide +kernel
theorem dX3_listChoices_58 : decode cX3_listChoices 58 = .ok (.if_icmp .le 15, 3) := by decide +kernel
theorem dX3_listChoices_61 : decode cX3_listChoices 61 = .ok (.aload_n 0, 1) := by decide +kernel
theorem dX3_listChoices_62 : decode cX3_listChoices 62 = .ok (.iload_n 1, 1) := by decide +kernel
theorem dX3_listChoices_63 : decode cX3_listChoices 63 = .ok (.iload_n 2, 1) := by decide +kernel
theorem dX3_listChoices_64 : decode cX3_listChoices 64 = .ok (.ineg, 1) := by decide +kernel
theorem dX3_listChoices_65 : decode cX3_listChoices 65 = .ok (.iconst 0, 1) := by decide +kernel
theorem dX3_listChoices_66 : decode cX3_listChoices 66 = .ok (.iload_n 3, 1) := by decide +kernel
theorem dX3_listChoices_67 : decode cX3_listChoices 67 = .ok (.invokestatic 79, 3) := by decide +kernel
theorem dX3_listChoices_70 : decode cX3_listChoices 70 = .ok (.invokevirtual 82, 3) := by decide +kernel
theorem dX3_listChoices_73 : decode cX3_listChoices 73 = .ok (.aload_n 0, 1) := by decide +kernel
theorem dX3_listChoices_74 : decode cX3_listChoices 74 = .ok (.iload_n 1, 1) := by decide +kernel
theorem dX3_listChoices_75 : decode cX3_listChoices 75 = .ok (.iconst 0, 1) := by decide +kernel
theorem dX3_listChoices_76 : decode cX3_listChoices 76 = .ok (.iload 5, 2) := by decide +kernel
theorem dX3_listChoices_78 : decode cX3_listChoices 78 = .ok (.invokevirtual 82, 3) := by decide +kernel
theorem dX3_listChoices_81 : decode cX3_listChoices 81 = .ok (.return_, 1) := by decide +kernel
theorem dX3_addChoice_0 : decode cX3_addChoice 0 = .ok (.aload_n 0, 1) := by decide +kernel
theorem dX3_addChoice_1 : decode cX3_addChoice 1 = .ok (.getfield 9, 3) := by decide +kernel
theorem dX3_addChoice_4 : decode cX3_addChoice 4 = .ok (.iload_n 1, 1) := by decide +kernel
theorem dX3_addChoice_5 : decode cX3_addChoice 5 = .ok (.iaload, 1) := by decide +kernel
theorem dX3_addChoice_6 : decode cX3_addChoice 6 = .ok (.istore 4, 2) := by decide +kernel
theorem dX3_addChoice_8 : decode cX3_addChoice 8 = .ok (.iload 4, 2) := by decide +kernel
theorem dX3_addChoice_10 : decode cX3_addChoice 10 = .ok (.iconst 3, 1) := by decide +kernel
theorem dX3_addChoice_11 : decode cX3_addChoice 11 = .ok (.if_icmp .ge 15, 3) := by decide +kernel
theorem dX3_addChoice_14 : decode cX3_addChoice 14 = .ok (.iload_n 2, 1) := by decide +kernel
theorem dX3_addChoice_15 : decode cX3_addChoice 15 = .ok (.bipush (-40), 2) := by decide +kernel
theorem dX3_addChoice_17 : decode cX3_addChoice 17 = .ok (.if_icmp .lt 9, 3) := by decide +kernel
theorem dX3_addChoice_20 : decode cX3_addChoice 20 = .ok (.iload_n 2, 1) := by decide +kernel
theorem dX3_addChoice_21 : decode cX3_addChoice 21 = .ok (.bipush 40, 2) := by decide +kernel
theorem dX3_addChoice_23 : decode cX3_addChoice 23 = .ok (.if_icmp .le 4, 3) := by decide +kernel
theorem dX3_addChoice_26 : decode cX3_addChoice 26 = .ok (.return_, 1) := by decide +kernel
theorem dX3_addChoice_27 : decode cX3_addChoice 27 = .ok (.aload_n 0, 1) := by decide +kernel
theorem dX3_addChoice_28 : decode cX3_addChoice 28 = .ok (.getfield 17, 3) := by decide +kernel
theorem dX3_addChoice_31 : decode cX3_addChoice 31 = .ok (.iload_n 1, 1) := by decide +kernel
theorem dX3_addChoice_32 : decode cX3_addChoice 32 = .ok (.aaload, 1) := by decide +kernel
theorem dX3_addChoice_33 : decode cX3_addChoice 33 = .ok (.iload 4, 2) := by decide +kernel
theorem dX3_addChoice_35 : decode cX3_addChoice 35 = .ok (.iload_n 2, 1) := by decide +kernel
theorem dX3_addChoice_36 : decode cX3_addChoice 36 = .ok (.iastore, 1) := by decide +kernel
theorem dX3_addChoice_37 : decode cX3_addChoice 37 = .ok (.aload_n 0, 1) := by decide +kernel
theorem dX3_addChoice_38 : decode cX3_addChoice 38 = .ok (.getfield 20, 3) := by decide +kernel
theorem dX3_addChoice_41 : decode cX3_addChoice 41 = .ok (.iload_n 1, 1) := by decide +kernel
theorem dX3_addChoice_42 : decode cX3_addChoice 42 = .ok (.aaload, 1) := by decide +kernel
theorem dX3_addChoice_43 : decode cX3_addChoice 43 = .ok (.iload 4, 2) := by decide +kernel
theorem dX3_addChoice_45 : decode cX3_addChoice 45 = .ok (.iload_n 3, 1) := by decide +kernel
theorem dX3_addChoice_46 : decode cX3_addChoice 46 = .ok (.iastore, 1) := by decide +kernel
theorem dX3_addChoice_47 : decode cX3_addChoice 47 = .ok (.aload_n 0, 1) := by decide +kernel
theorem dX3_addChoice_48 : decode cX3_addChoice 48 = .ok (.getfield 9, 3) := by decide +kernel
theorem dX3_addChoice_51 : decode cX3_addChoice 51 = .ok (.iload_n 1, 1) := by decide +kernel
theorem dX3_addChoice_52 : decode cX3_addChoice 52 = .ok (.dup2, 1) := by decide +kernel
theorem dX3_addChoice_53 : decode cX3_addChoice 53 = .ok (.iaload, 1) := by decide +kernel
theorem dX3_addChoice_54 : decode cX3_addChoice 54 = .ok (.iconst 1, 1) := by decide +kernel
theorem dX3_addChoice_55 : decode cX3_addChoice 55 = .ok (.iadd, 1) := by decide +kernel
theorem dX3_addChoice_56 : decode cX3_addChoice 56 = .ok (.iastore, 1) := by decide +kernel
theorem dX3_addChoice_57 : decode cX3_addChoice 57 = .ok (.return_, 1) := by decide +kernel
set_option maxRecDepth 20000 in
theorem ggX3_tryFrom_X3_keepIfBetter : GoodIn wsX3_tryFrom wsX3_keepIfBetter := goodIn_r _ [15, 4, 5, 9, 16, 1, 2, 17, 18, 19, 20, 21, 22, 23, 14, 24, 27, 28, 29, 30, 31, 32, 33, 34, 35, 36, 37, 38, 39, 40, 41, 42, 43] (by decide +kernel) (by decide +kernel)
set_option maxRecDepth 20000 in
theorem gX3_tryFrom_X3_keepIfBetter : GoodIn wsX3_tryFrom (wsV RX3 85 RX3 yX3_keepIfBetter wsX3_keepIfBetter) := goodIn_app (goodIn_of _ (by decide +kernel)) ggX3_tryFrom_X3_keepIfBetter
set_option maxRecDepth 20000 in
theorem ggX3_tryFrom_X3_tryFrom : GoodIn wsX3_tryFrom wsX3_tryFrom := goodIn_r _ [0, 1, 2, 3, 4, 5, 6, 7, 8, 9, 10, 11, 12, 13, 14, 15, 16, 17, 18, 19, 20, 21, 22, 23, 24, 25, 26, 27, 28, 29, 30, 31, 32, 33, 34, 35, 36, 37, 38, 39, 40, 41, 42, 43] (by decide +kernel) (by decide +kernel)
set_option maxRecDepth 20000 in
theorem gX3_tryFrom_X3_tryFrom : GoodIn wsX3_tryFrom (va_wsS RX3 66 yX3_tryFrom wsX3_tryFrom) := goodIn_app (goodIn_of _ (by decide +kernel)) ggX3_tryFrom_X3_tryFrom
theorem dX3_tryFrom_0 : decode cX3_tryFrom 0 = .ok (.iload_n 1, 1) := by decide +kernel
theorem dX3_tryFrom_1 : decode cX3_tryFrom 1 = .ok (.aload_n 0, 1) := by decide +kernel
theorem dX3_tryFrom_2 : decode cX3_tryFrom 2 = .ok (.getfield 32, 3) := by decide +kernel
theorem dX3_tryFrom_5 : decode cX3_tryFrom 5 = .ok (.getfield 52, 3) := by decide +kernel
theorem dX3_tryFrom_8 : decode cX3_tryFrom 8 = .ok (.if_icmp .lt 10, 3) := by decide +kernel
theorem dX3_tryFrom_11 : decode cX3_tryFrom 11 = .ok (.aload_n 0, 1) := by decide +kernel
theorem dX3_tryFrom_12 : decode cX3_tryFrom 12 = .ok (.iload_n 2, 1) := by decide +kernel
theorem dX3_tryFrom_13 : decode cX3_tryFrom 13 = .ok (.iload_n 3, 1) := by decide +kernel
theorem dX3_tryFrom_14 : decode cX3_tryFrom 14 = .ok (.invokevirtual 85, 3) := by decide +kernel
theorem dX3_tryFrom_17 : decode cX3_tryFrom 17 = .ok (.return_, 1) := by decide +kernel
theorem dX3_tryFrom_18 : decode cX3_tryFrom 18 = .ok (.iload_n 2, 1) := by decide +kernel
theorem dX3_tryFrom_19 : decode cX3_tryFrom 19 = .ok (.aload_n 0, 1) := by decide +kernel
theorem dX3_tryFrom_20 : decode cX3_tryFrom 20 = .ok (.getfield 23, 3) := by decide +kernel
theorem dX3_tryFrom_23 : decode cX3_tryFrom 23 = .ok (.iload_n 1, 1) := by decide +kernel
theorem dX3_tryFrom_24 : decode cX3_tryFrom 24 = .ok (.iaload, 1) := by decide +kernel
theorem dX3_tryFrom_25 : decode cX3_tryFrom 25 = .ok (.iadd, 1) := by decide +kernel
theorem dX3_tryFrom_26 : decode cX3_tryFrom 26 = .ok (.istore 4, 2) := by decide +kernel
theorem dX3_tryFrom_28 : decode cX3_tryFrom 28 = .ok (.iload 4, 2) := by decide +kernel
theorem dX3_tryFrom_30 : decode cX3_tryFrom 30 = .ok (.aload_n 0, 1) := by decide +kernel
theorem dX3_tryFrom_31 : decode cX3_tryFrom 31 = .ok (.getfield 46, 3) := by decide +kernel
theorem dX3_tryFrom_34 : decode cX3_tryFrom 34 = .ok (.if_icmp .lt 20, 3) := by decide +kernel
theorem dX3_tryFrom_37 : decode cX3_tryFrom 37 = .ok (.iload 4, 2) := by decide +kernel
theorem dX3_tryFrom_39 : decode cX3_tryFrom 39 = .ok (.aload_n 0, 1) := by decide +kernel
theorem dX3_tryFrom_40 : decode cX3_tryFrom 40 = .ok (.getfield 46, 3) := by decide +kernel
theorem dX3_tryFrom_43 : decode cX3_tryFrom 43 = .ok (.if_icmp .ne 12, 3) := by decide +kernel
theorem dX3_tryFrom_46 : decode cX3_tryFrom 46 = .ok (.iload_n 3, 1) := by decide +kernel
theorem dX3_tryFrom_47 : decode cX3_tryFrom 47 = .ok (.aload_n 0, 1) := by decide +kernel
theorem dX3_tryFrom_48 : decode cX3_tryFrom 48 = .ok (.getfield 49, 3) := by decide +kernel
theorem dX3_tryFrom_51 : decode cX3_tryFrom 51 = .ok (.if_icmp .le 4, 3) := by decide +kernel
theorem dX3_tryFrom_54 : decode cX3_tryFrom 54 = .ok (.return_, 1) := by decide +kernel
theorem dX3_tryFrom_55 : decode cX3_tryFrom 55 = .ok (.iconst 0, 1) := by decide +kernel
theorem dX3_tryFrom_56 : decode cX3_tryFrom 56 = .ok (.istore 5, 2) := by decide +kernel
theorem dX3_tryFrom_58 : decode cX3_tryFrom 58 = .ok (.iload 5, 2) := by decide +kernel
theorem dX3_tryFrom_60 : decode cX3_tryFrom 60 = .ok (.aload_n 0, 1) := by decide +kernel
theorem dX3_tryFrom_61 : decode cX3_tryFrom 61 = .ok (.getfield 9, 3) := by decide +kernel
theorem dX3_tryFrom_64 : decode cX3_tryFrom 64 = .ok (.iload_n 1, 1) := by decide +kernel
theorem dX3_tryFrom_65 : decode cX3_tryFrom 65 = .ok (.iaload, 1) := by decide +kernel
theorem dX3_tryFrom_66 : decode cX3_tryFrom 66 = .ok (.if_icmp .ge 67, 3) := by decide +kernel
theorem dX3_tryFrom_69 : decode cX3_tryFrom 69 = .ok (.aload_n 0, 1) := by decide +kernel
theorem dX3_tryFrom_70 : decode cX3_tryFrom 70 = .ok (.getfield 17, 3) := by decide +kernel
theorem dX3_tryFrom_73 : decode cX3_tryFrom 73 = .ok (.iload_n 1, 1) := by decide +kernel
theorem dX3_tryFrom_74 : decode cX3_tryFrom 74 = .ok (.aaload, 1) := by decide +kernel
theorem dX3_tryFrom_75 : decode cX3_tryFrom 75 = .ok (.iload 5, 2) := by decide +kernel
theorem dX3_tryFrom_77 : decode cX3_tryFrom 77 = .ok (.iaload, 1) := by decide +kernel
theorem dX3_tryFrom_78 : decode cX3_tryFrom 78 = .ok (.istore 6, 2) := by decide +kernel
theorem dX3_tryFrom_80 : decode cX3_tryFrom 80 = .ok (.iload_n 3, 1) := by decide +kernel
theorem dX3_tryFrom_81 : decode cX3_tryFrom 81 = .ok (.iload 6, 2) := by decide +kernel
theorem dX3_tryFrom_83 : decode cX3_tryFrom 83 = .ok (.iload 6, 2) := by decide +kernel
theorem dX3_tryFrom_85 : decode cX3_tryFrom 85 = .ok (.imul, 1) := by decide +kernel
theorem dX3_tryFrom_86 : decode cX3_tryFrom 86 = .ok (.iadd, 1) := by decide +kernel
theorem dX3_tryFrom_87 : decode cX3_tryFrom 87 = .ok (.aload_n 0, 1) := by decide +kernel
theorem dX3_tryFrom_88 : decode cX3_tryFrom 88 = .ok (.getfield 41, 3) := by decide +kernel
theorem dX3_tryFrom_91 : decode cX3_tryFrom 91 = .ok (.if_icmp .gt 36, 3) := by decide +kernel
theorem dX3_tryFrom_94 : decode cX3_tryFrom 94 = .ok (.aload_n 0, 1) := by decide +kernel
theorem dX3_tryFrom_95 : decode cX3_tryFrom 95 = .ok (.getfield 26, 3) := by decide +kernel
theorem dX3_tryFrom_98 : decode cX3_tryFrom 98 = .ok (.iload_n 1, 1) := by decide +kernel
theorem dX3_tryFrom_99 : decode cX3_tryFrom 99 = .ok (.iload 6, 2) := by decide +kernel
theorem dX3_tryFrom_101 : decode cX3_tryFrom 101 = .ok (.iastore, 1) := by decide +kernel
theorem dX3_tryFrom_102 : decode cX3_tryFrom 102 = .ok (.aload_n 0, 1) := by decide +kernel
theorem dX3_tryFrom_103 : decode cX3_tryFrom 103 = .ok (.iload_n 1, 1) := by decide +kernel
theorem dX3_tryFrom_104 : decode cX3_tryFrom 104 = .ok (.iconst 1, 1) := by decide +kernel
theorem dX3_tryFrom_105 : decode cX3_tryFrom 105 = .ok (.iadd, 1) := by decide +kernel
theorem dX3_tryFrom_106 : decode cX3_tryFrom 106 = .ok (.iload_n 2, 1) := by decide +kernel
theorem dX3_tryFrom_107 : decode cX3_tryFrom 107 = .ok (.aload_n 0, 1) := by decide +kernel
theorem dX3_tryFrom_108 : decode cX3_tryFrom 108 = .ok (.getfield 20, 3) := by decide +kernel
theorem dX3_tryFrom_111 : decode cX3_tryFrom 111 = .ok (.iload_n 1, 1) := by decide +kernel
theorem dX3_tryFrom_112 : decode cX3_tryFrom 112 = .ok (.aaload, 1) := by decide +kernel
theorem dX3_tryFrom_113 : decode cX3_tryFrom 113 = .ok (.iload 5, 2) := by decide +kernel
theorem dX3_tryFrom_115 : decode cX3_tryFrom 115 = .ok (.iaload, 1) := by decide +kernel
theorem dX3_tryFrom_116 : decode cX3_tryFrom 116 = .ok (.iadd, 1) := by decide +kernel
theorem dX3_tryFrom_117 : decode cX3_tryFrom 117 = .ok (.iload_n 3, 1) := by decide +kernel
theorem dX3_tryFrom_118 : decode cX3_tryFrom 118 = .ok (.iload 6, 2) := by decide +kernel
theorem dX3_tryFrom_120 : decode cX3_tryFrom 120 = .ok (.iload 6, 2) := by decide +kernel
theorem dX3_tryFrom_122 : decode cX3_tryFrom 122 = .ok (.imul, 1) := by decide +kernel
theorem dX3_tryFrom_123 : decode cX3_tryFrom 123 = .ok (.iadd, 1) := by decide +kernel
theorem dX3_tryFrom_124 : decode cX3_tryFrom 124 = .ok (.invokestatic 66, 3) := by decide +kernel
theorem dX3_tryFrom_127 : decode cX3_tryFrom 127 = .ok (.iinc 5 1, 3) := by decide +kernel
theorem dX3_tryFrom_130 : decode cX3_tryFrom 130 = .ok (.goto (-72), 3) := by decide +kernel
theorem dX3_tryFrom_133 : decode cX3_tryFrom 133 = .ok (.return_, 1) := by decide +kernel
set_option maxRecDepth 20000 in
theorem ggX3_keepIfBetter_X3_triedIsLess : GoodIn wsX3_keepIfBetter wsX3_triedIsLess := goodIn_r _ [15, 5, 6, 3, 4, 16, 17, 18, 19, 20, 21, 22, 23, 24, 25, 26, 27, 28, 29, 30, 31, 32] (by decide +kernel) (by decide +kernel)
set_option maxRecDepth 20000 in
theorem gX3_keepIfBetter_X3_triedIsLess : GoodIn wsX3_keepIfBetter (wsV RX3 89 RX3 yX3_triedIsLess wsX3_triedIsLess) := goodIn_app (goodIn_of _ (by decide +kernel)) ggX3_keepIfBetter_X3_triedIsLess
theorem dX3_keepIfBetter_0 : decode cX3_keepIfBetter 0 = .ok (.iload_n 1, 1) := by decide +kernel
theorem dX3_keepIfBetter_1 : decode cX3_keepIfBetter 1 = .ok (.aload_n 0, 1) := by decide +kernel
theorem dX3_keepIfBetter_2 : decode cX3_keepIfBetter 2 = .ok (.getfield 46, 3) := by decide +kernel
theorem dX3_keepIfBetter_5 : decode cX3_keepIfBetter 5 = .ok (.if_icmp .ge 4, 3) := by decide +kernel
theorem dX3_keepIfBetter_8 : decode cX3_keepIfBetter 8 = .ok (.return_, 1) := by decide +kernel
theorem dX3_keepIfBetter_9 : decode cX3_keepIfBetter 9 = .ok (.iload_n 1, 1) := by decide +kernel
theorem dX3_keepIfBetter_10 : decode cX3_keepIfBetter 10 = .ok (.aload_n 0, 1) := by decide +kernel
theorem dX3_keepIfBetter_11 : decode cX3_keepIfBetter 11 = .ok (.getfield 46, 3) := by decide +kernel
theorem dX3_keepIfBetter_14 : decode cX3_keepIfBetter 14 = .ok (.if_icmp .ne 27, 3) := by decide +kernel
theorem dX3_keepIfBetter_17 : decode cX3_keepIfBetter 17 = .ok (.iload_n 2, 1) := by decide +kernel
theorem dX3_keepIfBetter_18 : decode cX3_keepIfBetter 18 = .ok (.aload_n 0, 1) := by decide +kernel
theorem dX3_keepIfBetter_19 : decode cX3_keepIfBetter 19 = .ok (.getfield 49, 3) := by decide +kernel
theorem dX3_keepIfBetter_22 : decode cX3_keepIfBetter 22 = .ok (.if_icmp .gt 18, 3) := by decide +kernel
theorem dX3_keepIfBetter_25 : decode cX3_keepIfBetter 25 = .ok (.iload_n 2, 1) := by decide +kernel
theorem dX3_keepIfBetter_26 : decode cX3_keepIfBetter 26 = .ok (.aload_n 0, 1) := by decide +kernel
theorem dX3_keepIfBetter_27 : decode cX3_keepIfBetter 27 = .ok (.getfield 49, 3) := by decide +kernel
theorem dX3_keepIfBetter_30 : decode cX3_keepIfBetter 30 = .ok (.if_icmp .ne 11, 3) := by decide +kernel
theorem dX3_keepIfBetter_33 : decode cX3_keepIfBetter 33 = .ok (.aload_n 0, 1) := by decide +kernel
theorem dX3_keepIfBetter_34 : decode cX3_keepIfBetter 34 = .ok (.invokevirtual 89, 3) := by decide +kernel
theorem dX3_keepIfBetter_37 : decode cX3_keepIfBetter 37 = .ok (.ifCond .ne 4, 3) := by decide +kernel
theorem dX3_keepIfBetter_40 : decode cX3_keepIfBetter 40 = .ok (.return_, 1) := by decide +kernel
theorem dX3_keepIfBetter_41 : decode cX3_keepIfBetter 41 = .ok (.aload_n 0, 1) := by decide +kernel
theorem dX3_keepIfBetter_42 : decode cX3_keepIfBetter 42 = .ok (.iload_n 1, 1) := by decide +kernel
theorem dX3_keepIfBetter_43 : decode cX3_keepIfBetter 43 = .ok (.putfield 46, 3) := by decide +kernel
theorem dX3_keepIfBetter_46 : decode cX3_keepIfBetter 46 = .ok (.aload_n 0, 1) := by decide +kernel
theorem dX3_keepIfBetter_47 : decode cX3_keepIfBetter 47 = .ok (.iload_n 2, 1) := by decide +kernel
theorem dX3_keepIfBetter_48 : decode cX3_keepIfBetter 48 = .ok (.putfield 49, 3) := by decide +kernel
theorem dX3_keepIfBetter_51 : decode cX3_keepIfBetter 51 = .ok (.aload_n 0, 1) := by decide +kernel
theorem dX3_keepIfBetter_52 : decode cX3_keepIfBetter 52 = .ok (.getfield 26, 3) := by decide +kernel
theorem dX3_keepIfBetter_55 : decode cX3_keepIfBetter 55 = .ok (.iconst 0, 1) := by decide +kernel
theorem dX3_keepIfBetter_56 : decode cX3_keepIfBetter 56 = .ok (.aload_n 0, 1) := by decide +kernel
theorem dX3_keepIfBetter_57 : decode cX3_keepIfBetter 57 = .ok (.getfield 29, 3) := by decide +kernel
theorem dX3_keepIfBetter_60 : decode cX3_keepIfBetter 60 = .ok (.iconst 0, 1) := by decide +kernel
theorem dX3_keepIfBetter_61 : decode cX3_keepIfBetter 61 = .ok (.aload_n 0, 1) := by decide +kernel
theorem dX3_keepIfBetter_62 : decode cX3_keepIfBetter 62 = .ok (.getfield 32, 3) := by decide +kernel
theorem dX3_keepIfBetter_65 : decode cX3_keepIfBetter 65 = .ok (.getfield 52, 3) := by decide +kernel
theorem dX3_keepIfBetter_68 : decode cX3_keepIfBetter 68 = .ok (.invokestatic 73, 3) := by decide +kernel
theorem dX3_keepIfBetter_71 : decode cX3_keepIfBetter 71 = .ok (.return_, 1) := by decide +kernel
theorem dX3_triedIsLess_0 : decode cX3_triedIsLess 0 = .ok (.iconst 0, 1) := by decide +kernel
theorem dX3_triedIsLess_1 : decode cX3_triedIsLess 1 = .ok (.istore_n 1, 1) := by decide +kernel
theorem dX3_triedIsLess_2 : decode cX3_triedIsLess 2 = .ok (.iload_n 1, 1) := by decide +kernel
theorem dX3_triedIsLess_3 : decode cX3_triedIsLess 3 = .ok (.aload_n 0, 1) := by decide +kernel
theorem dX3_triedIsLess_4 : decode cX3_triedIsLess 4 = .ok (.getfield 32, 3) := by decide +kernel
theorem dX3_triedIsLess_7 : decode cX3_triedIsLess 7 = .ok (.getfield 52, 3) := by decide +kernel
theorem dX3_triedIsLess_10 : decode cX3_triedIsLess 10 = .ok (.if_icmp .ge 45, 3) := by decide +kernel
theorem dX3_triedIsLess_13 : decode cX3_triedIsLess 13 = .ok (.aload_n 0, 1) := by decide +kernel
theorem dX3_triedIsLess_14 : decode cX3_triedIsLess 14 = .ok (.getfield 26, 3) := by decide +kernel
theorem dX3_triedIsLess_17 : decode cX3_triedIsLess 17 = .ok (.iload_n 1, 1) := by decide +kernel
theorem dX3_triedIsLess_18 : decode cX3_triedIsLess 18 = .ok (.iaload, 1) := by decide +kernel
theorem dX3_triedIsLess_19 : decode cX3_triedIsLess 19 = .ok (.aload_n 0, 1) := by decide +kernel
theorem dX3_triedIsLess_20 : decode cX3_triedIsLess 20 = .ok (.getfield 29, 3) := by decide +kernel
theorem dX3_triedIsLess_23 : decode cX3_triedIsLess 23 = .ok (.iload_n 1, 1) := by decide +kernel
theorem dX3_triedIsLess_24 : decode cX3_triedIsLess 24 = .ok (.iaload, 1) := by decide +kernel
theorem dX3_triedIsLess_25 : decode cX3_triedIsLess 25 = .ok (.if_icmp .eq 24, 3) := by decide +kernel
theorem dX3_triedIsLess_28 : decode cX3_triedIsLess 28 = .ok (.aload_n 0, 1) := by decide +kernel
theorem dX3_triedIsLess_29 : decode cX3_triedIsLess 29 = .ok (.getfield 26, 3) := by decide +kernel
theorem dX3_triedIsLess_32 : decode cX3_triedIsLess 32 = .ok (.iload_n 1, 1) := by decide +kernel
theorem dX3_triedIsLess_33 : decode cX3_triedIsLess 33 = .ok (.iaload, 1) := by decide +kernel
theorem dX3_triedIsLess_34 : decode cX3_triedIsLess 34 = .ok (.aload_n 0, 1) := by decide +kernel
theorem dX3_triedIsLess_35 : decode cX3_triedIsLess 35 = .ok (.getfield 29, 3) := by decide +kernel
theorem dX3_triedIsLess_38 : decode cX3_triedIsLess 38 = .ok (.iload_n 1, 1) := by decide +kernel
theorem dX3_triedIsLess_39 : decode cX3_triedIsLess 39 = .ok (.iaload, 1) := by decide +kernel
theorem dX3_triedIsLess_40 : decode cX3_triedIsLess 40 = .ok (.if_icmp .ge 7, 3) := by decide +kernel
theorem dX3_triedIsLess_43 : decode cX3_triedIsLess 43 = .ok (.iconst 1, 1) := by decide +kernel
theorem dX3_triedIsLess_44 : decode cX3_triedIsLess 44 = .ok (.goto 4, 3) := by decide +kernel
theorem dX3_triedIsLess_47 : decode cX3_triedIsLess 47 = .ok (.iconst 0, 1) := by decide +kernel
theorem dX3_triedIsLess_48 : decode cX3_triedIsLess 48 = .ok (.ireturn, 1) := by decide +kernel
theorem dX3_triedIsLess_49 : decode cX3_triedIsLess 49 = .ok (.iinc 1 1, 3) := by decide +kernel
theorem dX3_triedIsLess_52 : decode cX3_triedIsLess 52 = .ok (.goto (-50), 3) := by decide +kernel
theorem dX3_triedIsLess_55 : decode cX3_triedIsLess 55 = .ok (.iconst 0, 1) := by decide +kernel
theorem dX3_triedIsLess_56 : decode cX3_triedIsLess 56 = .ok (.ireturn, 1) := by decide +kernel
set_option maxRecDepth 20000 in
theorem ggX4_init_X1_init : GoodIn wsX4_init wsX1_init := goodIn_r _ [21, 22, 2, 3, 23, 24, 25, 26, 27, 28, 29, 61, 62, 63, 64, 65, 66, 67] (by decide +kernel) (by decide +kernel)
set_option maxRecDepth 20000 in
theorem gX4_init_X1_init_n9 : GoodIn wsX4_init (wsX1_init) := ggX4_init_X1_init
set_option maxRecDepth 20000 in
theorem ggX4_init_X3_init : GoodIn wsX4_init wsX3_init := goodIn_r _ [32, 33, 2, 3, 23, 34, 35, 36, 37, 38, 39, 40, 41, 72, 73, 74, 75, 76, 77, 78, 79, 80, 81] (by decide +kernel) (by decide +kernel)
set_option maxRecDepth 20000 in
theorem gX4_init_X3_init : GoodIn wsX4_init (wsX3_init) := ggX4_init_X3_init
set_option maxRecDepth 20000 in
theorem ggX4_init_X2_init : GoodIn wsX4_init wsX2_init := goodIn_r _ [44, 45, 2, 3, 46, 47, 48, 49, 50, 51, 82, 83, 84, 85, 86, 87, 88] (by decide +kernel) (by decide +kernel)
set_option maxRecDepth 20000 in
theorem gX4_init_X2_init : GoodIn wsX4_init (wsX2_init) := ggX4_init_X2_init
set_option maxRecDepth 20000 in
theorem ggX4_init_X0_init : GoodIn wsX4_init wsX0_init := goodIn_r _ [54, 55, 2, 3, 56, 23, 57, 58, 47, 59, 60, 89, 90, 91, 92, 93] (by decide +kernel) (by decide +kernel)
set_option maxRecDepth 20000 in
theorem gX4_init_X0_init : GoodIn wsX4_init (wsX0_init) := ggX4_init_X0_init
theorem dX4_init_0 : decode cX4_init 0 = .ok (.aload_n 0, 1) := by decide +kernel
theorem dX4_init_1 : decode cX4_init 1 = .ok (.invokespecial 1, 3) := by decide +kernel
theorem dX4_init_4 : decode cX4_init 4 = .ok (.aload_n 0, 1) := by decide +kernel
theorem dX4_init_5 : decode cX4_init 5 = .ok (.new 7, 3) := by decide +kernel
theorem dX4_init_8 : decode cX4_init 8 = .ok (.dup, 1) := by decide +kernel
theorem dX4_init_9 : decode cX4_init 9 = .ok (.invokespecial 9, 3) := by decide +kernel
theorem dX4_init_12 : decode cX4_init 12 = .ok (.putfield 10, 3) := by decide +kernel
theorem dX4_init_15 : decode cX4_init 15 = .ok (.aload_n 0, 1) := by decide +kernel
theorem dX4_init_16 : decode cX4_init 16 = .ok (.new 16, 3) := by decide +kernel
theorem dX4_init_19 : decode cX4_init 19 = .ok (.dup, 1) := by decide +kernel
theorem dX4_init_20 : decode cX4_init 20 = .ok (.aload_n 0, 1) := by decide +kernel
theorem dX4_init_21 : decode cX4_init 21 = .ok (.getfield 10, 3) := by decide +kernel
theorem dX4_init_24 : decode cX4_init 24 = .ok (.invokespecial 18, 3) := by decide +kernel
theorem dX4_init_27 : decode cX4_init 27 = .ok (.putfield 21, 3) := by decide +kernel
theorem dX4_init_30 : decode cX4_init 30 = .ok (.aload_n 0, 1) := by decide +kernel
theorem dX4_init_31 : decode cX4_init 31 = .ok (.new 25, 3) := by decide +kernel
theorem dX4_init_34 : decode cX4_init 34 = .ok (.dup, 1) := by decide +kernel
theorem dX4_init_35 : decode cX4_init 35 = .ok (.aload_n 0, 1) := by decide +kernel
theorem dX4_init_36 : decode cX4_init 36 = .ok (.getfield 10, 3) := by decide +kernel
theorem dX4_init_39 : decode cX4_init 39 = .ok (.aload_n 0, 1) := by decide +kernel
theorem dX4_init_40 : decode cX4_init 40 = .ok (.getfield 21, 3) := by decide +kernel
theorem dX4_init_43 : decode cX4_init 43 = .ok (.invokespecial 27, 3) := by decide +kernel
theorem dX4_init_46 : decode cX4_init 46 = .ok (.putfield 30, 3) := by decide +kernel
theorem dX4_init_49 : decode cX4_init 49 = .ok (.aload_n 0, 1) := by decide +kernel
theorem dX4_init_50 : decode cX4_init 50 = .ok (.new 34, 3) := by decide +kernel
theorem dX4_init_53 : decode cX4_init 53 = .ok (.dup, 1) := by decide +kernel
theorem dX4_init_54 : decode cX4_init 54 = .ok (.aload_n 0, 1) := by decide +kernel
theorem dX4_init_55 : decode cX4_init 55 = .ok (.getfield 10, 3) := by decide +kernel
theorem dX4_init_58 : decode cX4_init 58 = .ok (.invokespecial 36, 3) := by decide +kernel
theorem dX4_init_61 : decode cX4_init 61 = .ok (.putfield 37, 3) := by decide +kernel
theorem dX4_init_64 : decode cX4_init 64 = .ok (.return_, 1) := by decide +kernel
set_option maxRecDepth 20000 in
theorem ggX4_person_X4_isWithin : GoodIn wsX4_person wsX4_isWithin := goodIn_r _ [6] (by decide +kernel) (by decide +kernel)
set_option maxRecDepth 20000 in
theorem gX4_person_X4_isWithin : GoodIn wsX4_person (va_wsS RX4 41 yX4_isWithin wsX4_isWithin) := goodIn_app (goodIn_of _ (by decide +kernel)) ggX4_person_X4_isWithin
set_option maxRecDepth 20000 in
theorem ggX4_person_X1_addPerson : GoodIn wsX4_person wsX1_addPerson := goodIn_r _ [11, 12, 13, 14, 19, 20, 21, 22, 23, 24, 25] (by decide +kernel) (by decide +kernel)
set_option maxRecDepth 20000 in
theorem gX4_person_X1_addPerson : GoodIn wsX4_person (wsV RX4 49 RX1 yX1_addPerson wsX1_addPerson) := goodIn_app (goodIn_of _ (by decide +kernel)) ggX4_person_X1_addPerson
theorem dX4_person_0 : decode cX4_person 0 = .ok (.iload_n 1, 1) := by decide +kernel
theorem dX4_person_1 : decode cX4_person 1 = .ok (.iconst 0, 1) := by decide +kernel
theorem dX4_person_2 : decode cX4_person 2 = .ok (.sipush 2000, 3) := by decide +kernel
theorem dX4_person_5 : decode cX4_person 5 = .ok (.invokestatic 41, 3) := by decide +kernel
theorem dX4_person_8 : decode cX4_person 8 = .ok (.ifCond .ne 6, 3) := by decide +kernel
theorem dX4_person_11 : decode cX4_person 11 = .ok (.bipush (-102), 2) := by decide +kernel
theorem dX4_person_13 : decode cX4_person 13 = .ok (.ireturn, 1) := by decide +kernel
theorem dX4_person_14 : decode cX4_person 14 = .ok (.aload_n 0, 1) := by decide +kernel
theorem dX4_person_15 : decode cX4_person 15 = .ok (.getfield 10, 3) := by decide +kernel
theorem dX4_person_18 : decode cX4_person 18 = .ok (.getfield 45, 3) := by decide +kernel
theorem dX4_person_21 : decode cX4_person 21 = .ok (.bipush 12, 2) := by decide +kernel
theorem dX4_person_23 : decode cX4_person 23 = .ok (.if_icmp .lt 6, 3) := by decide +kernel
theorem dX4_person_26 : decode cX4_person 26 = .ok (.bipush (-104), 2) := by decide +kernel
theorem dX4_person_28 : decode cX4_person 28 = .ok (.ireturn, 1) := by decide +kernel
theorem dX4_person_29 : decode cX4_person 29 = .ok (.aload_n 0, 1) := by decide +kernel
theorem dX4_person_30 : decode cX4_person 30 = .ok (.getfield 10, 3) := by decide +kernel
theorem dX4_person_33 : decode cX4_person 33 = .ok (.iload_n 1, 1) := by decide +kernel
theorem dX4_person_34 : decode cX4_person 34 = .ok (.invokevirtual 49, 3) := by decide +kernel
theorem dX4_person_37 : decode cX4_person 37 = .ok (.ireturn, 1) := by decide +kernel
theorem dX4_question_0 : decode cX4_question 0 = .ok (.aload_n 0, 1) := by decide +kernel
theorem dX4_question_1 : decode cX4_question 1 = .ok (.getfield 10, 3) := by decide +kernel
theorem dX4_question_4 : decode cX4_question 4 = .ok (.getfield 53, 3) := by decide +kernel
theorem dX4_question_7 : decode cX4_question 7 = .ok (.bipush 6, 2) := by decide +kernel
theorem dX4_question_9 : decode cX4_question 9 = .ok (.if_icmp .lt 6, 3) := by decide +kernel
theorem dX4_question_12 : decode cX4_question 12 = .ok (.bipush (-104), 2) := by decide +kernel
theorem dX4_question_14 : decode cX4_question 14 = .ok (.ireturn, 1) := by decide +kernel
theorem dX4_question_15 : decode cX4_question 15 = .ok (.aload_n 0, 1) := by decide +kernel
theorem dX4_question_16 : decode cX4_question 16 = .ok (.getfield 10, 3) := by decide +kernel
theorem dX4_question_19 : decode cX4_question 19 = .ok (.dup, 1) := by decide +kernel
theorem dX4_question_20 : decode cX4_question 20 = .ok (.getfield 53, 3) := by decide +kernel
theorem dX4_question_23 : decode cX4_question 23 = .ok (.iconst 1, 1) := by decide +kernel
theorem dX4_question_24 : decode cX4_question 24 = .ok (.iadd, 1) := by decide +kernel
theorem dX4_question_25 : decode cX4_question 25 = .ok (.putfield 53, 3) := by decide +kernel
theorem dX4_question_28 : decode cX4_question 28 = .ok (.aload_n 0, 1) := by decide +kernel
theorem dX4_question_29 : decode cX4_question 29 = .ok (.getfield 10, 3) := by decide +kernel
theorem dX4_question_32 : decode cX4_question 32 = .ok (.getfield 53, 3) := by decide +kernel
theorem dX4_question_35 : decode cX4_question 35 = .ok (.iconst 1, 1) := by decide +kernel
theorem dX4_question_36 : decode cX4_question 36 = .ok (.isub, 1) := by decide +kernel
theorem dX4_question_37 : decode cX4_question 37 = .ok (.ireturn, 1) := by decide +kernel
theorem dX4_project_0 : decode cX4_project 0 = .ok (.aload_n 0, 1) := by decide +kernel
theorem dX4_project_1 : decode cX4_project 1 = .ok (.getfield 37, 3) := by decide +kernel
theorem dX4_project_4 : decode cX4_project 4 = .ok (.getfield 56, 3) := by decide +kernel
theorem dX4_project_7 : decode cX4_project 7 = .ok (.bipush 6, 2) := by decide +kernel
theorem dX4_project_9 : decode cX4_project 9 = .ok (.if_icmp .lt 6, 3) := by decide +kernel
theorem dX4_project_12 : decode cX4_project 12 = .ok (.bipush (-104), 2) := by decide +kernel
theorem dX4_project_14 : decode cX4_project 14 = .ok (.ireturn, 1) := by decide +kernel
theorem dX4_project_15 : decode cX4_project 15 = .ok (.aload_n 0, 1) := by decide +kernel
theorem dX4_project_16 : decode cX4_project 16 = .ok (.getfield 37, 3) := by decide +kernel
theorem dX4_project_19 : decode cX4_project 19 = .ok (.dup, 1) := by decide +kernel
theorem dX4_project_20 : decode cX4_project 20 = .ok (.getfield 56, 3) := by decide +kernel
theorem dX4_project_23 : decode cX4_project 23 = .ok (.iconst 1, 1) := by decide +kernel
theorem dX4_project_24 : decode cX4_project 24 = .ok (.iadd, 1) := by decide +kernel
theorem dX4_project_25 : decode cX4_project 25 = .ok (.putfield 56, 3) := by decide +kernel
theorem dX4_project_28 : decode cX4_project 28 = .ok (.aload_n 0, 1) := by decide +kernel
theorem dX4_project_29 : decode cX4_project 29 = .ok (.getfield 37, 3) := by decide +kernel
theorem dX4_project_32 : decode cX4_project 32 = .ok (.getfield 56, 3) := by decide +kernel
theorem dX4_project_35 : decode cX4_project 35 = .ok (.iconst 1, 1) := by decide +kernel
theorem dX4_project_36 : decode cX4_project 36 = .ok (.isub, 1) := by decide +kernel
theorem dX4_project_37 : decode cX4_project 37 = .ok (.ireturn, 1) := by decide +kernel
theorem dX4_seed_0 : decode cX4_seed 0 = .ok (.aload_n 0, 1) := by decide +kernel
theorem dX4_seed_1 : decode cX4_seed 1 = .ok (.getfield 10, 3) := by decide +kernel
theorem dX4_seed_4 : decode cX4_seed 4 = .ok (.getfield 59, 3) := by decide +kernel
theorem dX4_seed_7 : decode cX4_seed 7 = .ok (.istore_n 2, 1) := by decide +kernel
theorem dX4_seed_8 : decode cX4_seed 8 = .ok (.aload_n 0, 1) := by decide +kernel
theorem dX4_seed_9 : decode cX4_seed 9 = .ok (.getfield 10, 3) := by decide +kernel
theorem dX4_seed_12 : decode cX4_seed 12 = .ok (.iload_n 1, 1) := by decide +kernel
theorem dX4_seed_13 : decode cX4_seed 13 = .ok (.putfield 59, 3) := by decide +kernel
theorem dX4_seed_16 : decode cX4_seed 16 = .ok (.iload_n 2, 1) := by decide +kernel
theorem dX4_seed_17 : decode cX4_seed 17 = .ok (.ireturn, 1) := by decide +kernel
set_option maxRecDepth 20000 in
theorem ggX4_vote_X1_hasPerson : GoodIn wsX4_vote wsX1_hasPerson := goodIn_r _ [8, 9, 28, 29, 30, 31, 32, 33, 34] (by decide +kernel) (by decide +kernel)
set_option maxRecDepth 20000 in
theorem gX4_vote_X1_hasPerson : GoodIn wsX4_vote (wsV RX4 62 RX1 yX1_hasPerson wsX1_hasPerson) := goodIn_app (goodIn_of _ (by decide +kernel)) ggX4_vote_X1_hasPerson
set_option maxRecDepth 20000 in
theorem ggX4_vote_X1_hasQuestion : GoodIn wsX4_vote wsX1_hasQuestion := goodIn_r _ [13, 14, 28, 29, 30, 31, 32, 33, 34] (by decide +kernel) (by decide +kernel)
set_option maxRecDepth 20000 in
theorem gX4_vote_X1_hasQuestion : GoodIn wsX4_vote (wsV RX4 66 RX1 yX1_hasQuestion wsX1_hasQuestion) := goodIn_app (goodIn_of _ (by decide +kernel)) ggX4_vote_X1_hasQuestion
set_option maxRecDepth 20000 in
theorem ggX4_vote_X4_isWithin : GoodIn wsX4_vote wsX4_isWithin := goodIn_r _ [18] (by decide +kernel) (by decide +kernel)
set_option maxRecDepth 20000 in
theorem gX4_vote_X4_isWithin : GoodIn wsX4_vote (va_wsS RX4 41 yX4_isWithin wsX4_isWithin) := goodIn_app (goodIn_of _ (by decide +kernel)) ggX4_vote_X4_isWithin
set_option maxRecDepth 20000 in
theorem ggX4_vote_X1_costOf : GoodIn wsX4_vote wsX1_costOf := goodIn_r _ [22, 14, 23, 28, 29, 30, 31, 32, 33, 34] (by decide +kernel) (by decide +kernel)
set_option maxRecDepth 20000 in
theorem gX4_vote_X1_costOf : GoodIn wsX4_vote (wsV RX4 73 RX1 yX1_costOf wsX1_costOf) := goodIn_app (goodIn_of _ (by decide +kernel)) ggX4_vote_X1_costOf
theorem dX4_vote_0 : decode cX4_vote 0 = .ok (.aload_n 0, 1) := by decide +kernel
theorem dX4_vote_1 : decode cX4_vote 1 = .ok (.getfield 10, 3) := by decide +kernel
theorem dX4_vote_4 : decode cX4_vote 4 = .ok (.iload_n 1, 1) := by decide +kernel
theorem dX4_vote_5 : decode cX4_vote 5 = .ok (.invokevirtual 62, 3) := by decide +kernel
theorem dX4_vote_8 : decode cX4_vote 8 = .ok (.ifCond .eq 14, 3) := by decide +kernel
theorem dX4_vote_11 : decode cX4_vote 11 = .ok (.aload_n 0, 1) := by decide +kernel
theorem dX4_vote_12 : decode cX4_vote 12 = .ok (.getfield 10, 3) := by decide +kernel
theorem dX4_vote_15 : decode cX4_vote 15 = .ok (.iload_n 2, 1) := by decide +kernel
theorem dX4_vote_16 : decode cX4_vote 16 = .ok (.invokevirtual 66, 3) := by decide +kernel
theorem dX4_vote_19 : decode cX4_vote 19 = .ok (.ifCond .ne 6, 3) := by decide +kernel
theorem dX4_vote_22 : decode cX4_vote 22 = .ok (.bipush (-101), 2) := by decide +kernel
theorem dX4_vote_24 : decode cX4_vote 24 = .ok (.ireturn, 1) := by decide +kernel
theorem dX4_vote_25 : decode cX4_vote 25 = .ok (.iload_n 3, 1) := by decide +kernel
theorem dX4_vote_26 : decode cX4_vote 26 = .ok (.bipush (-40), 2) := by decide +kernel
theorem dX4_vote_28 : decode cX4_vote 28 = .ok (.bipush 40, 2) := by decide +kernel
theorem dX4_vote_30 : decode cX4_vote 30 = .ok (.invokestatic 41, 3) := by decide +kernel
theorem dX4_vote_33 : decode cX4_vote 33 = .ok (.ifCond .ne 6, 3) := by decide +kernel
theorem dX4_vote_36 : decode cX4_vote 36 = .ok (.bipush (-102), 2) := by decide +kernel
theorem dX4_vote_38 : decode cX4_vote 38 = .ok (.ireturn, 1) := by decide +kernel
theorem dX4_vote_39 : decode cX4_vote 39 = .ok (.aload_n 0, 1) := by decide +kernel
theorem dX4_vote_40 : decode cX4_vote 40 = .ok (.getfield 10, 3) := by decide +kernel
theorem dX4_vote_43 : decode cX4_vote 43 = .ok (.getfield 69, 3) := by decide +kernel
theorem dX4_vote_46 : decode cX4_vote 46 = .ok (.iload_n 1, 1) := by decide +kernel
theorem dX4_vote_47 : decode cX4_vote 47 = .ok (.aaload, 1) := by decide +kernel
theorem dX4_vote_48 : decode cX4_vote 48 = .ok (.iload_n 2, 1) := by decide +kernel
theorem dX4_vote_49 : decode cX4_vote 49 = .ok (.iaload, 1) := by decide +kernel
theorem dX4_vote_50 : decode cX4_vote 50 = .ok (.istore 4, 2) := by decide +kernel
theorem dX4_vote_52 : decode cX4_vote 52 = .ok (.aload_n 0, 1) := by decide +kernel
theorem dX4_vote_53 : decode cX4_vote 53 = .ok (.getfield 10, 3) := by decide +kernel
theorem dX4_vote_56 : decode cX4_vote 56 = .ok (.iload_n 1, 1) := by decide +kernel
theorem dX4_vote_57 : decode cX4_vote 57 = .ok (.invokevirtual 73, 3) := by decide +kernel
theorem dX4_vote_60 : decode cX4_vote 60 = .ok (.iload 4, 2) := by decide +kernel
theorem dX4_vote_62 : decode cX4_vote 62 = .ok (.iload 4, 2) := by decide +kernel
theorem dX4_vote_64 : decode cX4_vote 64 = .ok (.imul, 1) := by decide +kernel
theorem dX4_vote_65 : decode cX4_vote 65 = .ok (.isub, 1) := by decide +kernel
theorem dX4_vote_66 : decode cX4_vote 66 = .ok (.iload_n 3, 1) := by decide +kernel
theorem dX4_vote_67 : decode cX4_vote 67 = .ok (.iload_n 3, 1) := by decide +kernel
theorem dX4_vote_68 : decode cX4_vote 68 = .ok (.imul, 1) := by decide +kernel
theorem dX4_vote_69 : decode cX4_vote 69 = .ok (.iadd, 1) := by decide +kernel
theorem dX4_vote_70 : decode cX4_vote 70 = .ok (.istore 5, 2) := by decide +kernel
theorem dX4_vote_72 : decode cX4_vote 72 = .ok (.iload 5, 2) := by decide +kernel
theorem dX4_vote_74 : decode cX4_vote 74 = .ok (.aload_n 0, 1) := by decide +kernel
theorem dX4_vote_75 : decode cX4_vote 75 = .ok (.getfield 10, 3) := by decide +kernel
theorem dX4_vote_78 : decode cX4_vote 78 = .ok (.getfield 76, 3) := by decide +kernel
theorem dX4_vote_81 : decode cX4_vote 81 = .ok (.iload_n 1, 1) := by decide +kernel
theorem dX4_vote_82 : decode cX4_vote 82 = .ok (.iaload, 1) := by decide +kernel
theorem dX4_vote_83 : decode cX4_vote 83 = .ok (.if_icmp .le 6, 3) := by decide +kernel
theorem dX4_vote_86 : decode cX4_vote 86 = .ok (.bipush (-103), 2) := by decide +kernel
theorem dX4_vote_88 : decode cX4_vote 88 = .ok (.ireturn, 1) := by decide +kernel
theorem dX4_vote_89 : decode cX4_vote 89 = .ok (.aload_n 0, 1) := by decide +kernel
theorem dX4_vote_90 : decode cX4_vote 90 = .ok (.getfield 10, 3) := by decide +kernel
theorem dX4_vote_93 : decode cX4_vote 93 = .ok (.getfield 69, 3) := by decide +kernel
theorem dX4_vote_96 : decode cX4_vote 96 = .ok (.iload_n 1, 1) := by decide +kernel
theorem dX4_vote_97 : decode cX4_vote 97 = .ok (.aaload, 1) := by decide +kernel
theorem dX4_vote_98 : decode cX4_vote 98 = .ok (.iload_n 2, 1) := by decide +kernel
theorem dX4_vote_99 : decode cX4_vote 99 = .ok (.iload_n 3, 1) := by decide +kernel
theorem dX4_vote_100 : decode cX4_vote 100 = .ok (.iastore, 1) := by decide +kernel
theorem dX4_vote_101 : decode cX4_vote 101 = .ok (.iload 5, 2) := by decide +kernel
theorem dX4_vote_103 : decode cX4_vote 103 = .ok (.ireturn, 1) := by decide +kernel
set_option maxRecDepth 20000 in
theorem ggX4_worth_X1_hasPerson : GoodIn wsX4_worth wsX1_hasPerson := goodIn_r _ [7, 8, 22, 23, 24, 25, 26, 27, 28] (by decide +kernel) (by decide +kernel)
set_option maxRecDepth 20000 in
theorem gX4_worth_X1_hasPerson : GoodIn wsX4_worth (wsV RX4 62 RX1 yX1_hasPerson wsX1_hasPerson) := goodIn_app (goodIn_of _ (by decide +kernel)) ggX4_worth_X1_hasPerson
set_option maxRecDepth 20000 in
theorem ggX4_worth_X1_hasQuestion : GoodIn wsX4_worth wsX1_hasQuestion := goodIn_r _ [12, 13, 22, 23, 24, 25, 26, 27, 28] (by decide +kernel) (by decide +kernel)
set_option maxRecDepth 20000 in
theorem gX4_worth_X1_hasQuestion : GoodIn wsX4_worth (wsV RX4 66 RX1 yX1_hasQuestion wsX1_hasQuestion) := goodIn_app (goodIn_of _ (by decide +kernel)) ggX4_worth_X1_hasQuestion
set_option maxRecDepth 20000 in
theorem ggX4_worth_X4_isWithin : GoodIn wsX4_worth wsX4_isWithin := goodIn_r _ [17] (by decide +kernel) (by decide +kernel)
set_option maxRecDepth 20000 in
theorem gX4_worth_X4_isWithin : GoodIn wsX4_worth (va_wsS RX4 41 yX4_isWithin wsX4_isWithin) := goodIn_app (goodIn_of _ (by decide +kernel)) ggX4_worth_X4_isWithin
theorem dX4_worth_0 : decode cX4_worth 0 = .ok (.aload_n 0, 1) := by decide +kernel
theorem dX4_worth_1 : decode cX4_worth 1 = .ok (.getfield 10, 3) := by decide +kernel
theorem dX4_worth_4 : decode cX4_worth 4 = .ok (.iload_n 1, 1) := by decide +kernel
theorem dX4_worth_5 : decode cX4_worth 5 = .ok (.invokevirtual 62, 3) := by decide +kernel
theorem dX4_worth_8 : decode cX4_worth 8 = .ok (.ifCond .eq 14, 3) := by decide +kernel
theorem dX4_worth_11 : decode cX4_worth 11 = .ok (.aload_n 0, 1) := by decide +kernel
theorem dX4_worth_12 : decode cX4_worth 12 = .ok (.getfield 10, 3) := by decide +kernel
theorem dX4_worth_15 : decode cX4_worth 15 = .ok (.iload_n 2, 1) := by decide +kernel
theorem dX4_worth_16 : decode cX4_worth 16 = .ok (.invokevirtual 66, 3) := by decide +kernel
theorem dX4_worth_19 : decode cX4_worth 19 = .ok (.ifCond .ne 6, 3) := by decide +kernel
theorem dX4_worth_22 : decode cX4_worth 22 = .ok (.bipush (-101), 2) := by decide +kernel
theorem dX4_worth_24 : decode cX4_worth 24 = .ok (.ireturn, 1) := by decide +kernel
theorem dX4_worth_25 : decode cX4_worth 25 = .ok (.iload_n 3, 1) := by decide +kernel
theorem dX4_worth_26 : decode cX4_worth 26 = .ok (.sipush (-1000), 3) := by decide +kernel
theorem dX4_worth_29 : decode cX4_worth 29 = .ok (.sipush 1000, 3) := by decide +kernel
theorem dX4_worth_32 : decode cX4_worth 32 = .ok (.invokestatic 41, 3) := by decide +kernel
theorem dX4_worth_35 : decode cX4_worth 35 = .ok (.ifCond .ne 6, 3) := by decide +kernel
theorem dX4_worth_38 : decode cX4_worth 38 = .ok (.bipush (-102), 2) := by decide +kernel
theorem dX4_worth_40 : decode cX4_worth 40 = .ok (.ireturn, 1) := by decide +kernel
theorem dX4_worth_41 : decode cX4_worth 41 = .ok (.aload_n 0, 1) := by decide +kernel
theorem dX4_worth_42 : decode cX4_worth 42 = .ok (.getfield 10, 3) := by decide +kernel
theorem dX4_worth_45 : decode cX4_worth 45 = .ok (.getfield 80, 3) := by decide +kernel
theorem dX4_worth_48 : decode cX4_worth 48 = .ok (.iload_n 1, 1) := by decide +kernel
theorem dX4_worth_49 : decode cX4_worth 49 = .ok (.aaload, 1) := by decide +kernel
theorem dX4_worth_50 : decode cX4_worth 50 = .ok (.iload_n 2, 1) := by decide +kernel
theorem dX4_worth_51 : decode cX4_worth 51 = .ok (.iaload, 1) := by decide +kernel
theorem dX4_worth_52 : decode cX4_worth 52 = .ok (.istore 4, 2) := by decide +kernel
theorem dX4_worth_54 : decode cX4_worth 54 = .ok (.aload_n 0, 1) := by decide +kernel
theorem dX4_worth_55 : decode cX4_worth 55 = .ok (.getfield 10, 3) := by decide +kernel
theorem dX4_worth_58 : decode cX4_worth 58 = .ok (.getfield 80, 3) := by decide +kernel
theorem dX4_worth_61 : decode cX4_worth 61 = .ok (.iload_n 1, 1) := by decide +kernel
theorem dX4_worth_62 : decode cX4_worth 62 = .ok (.aaload, 1) := by decide +kernel
theorem dX4_worth_63 : decode cX4_worth 63 = .ok (.iload_n 2, 1) := by decide +kernel
theorem dX4_worth_64 : decode cX4_worth 64 = .ok (.iload_n 3, 1) := by decide +kernel
theorem dX4_worth_65 : decode cX4_worth 65 = .ok (.iastore, 1) := by decide +kernel
theorem dX4_worth_66 : decode cX4_worth 66 = .ok (.iload 4, 2) := by decide +kernel
theorem dX4_worth_68 : decode cX4_worth 68 = .ok (.ireturn, 1) := by decide +kernel
set_option maxRecDepth 20000 in
theorem ggX4_here_X1_hasPerson : GoodIn wsX4_here wsX1_hasPerson := goodIn_r _ [7, 8, 13, 14, 15, 16, 17, 18, 19] (by decide +kernel) (by decide +kernel)
set_option maxRecDepth 20000 in
theorem gX4_here_X1_hasPerson : GoodIn wsX4_here (wsV RX4 62 RX1 yX1_hasPerson wsX1_hasPerson) := goodIn_app (goodIn_of _ (by decide +kernel)) ggX4_here_X1_hasPerson
theorem dX4_here_0 : decode cX4_here 0 = .ok (.aload_n 0, 1) := by decide +kernel
theorem dX4_here_1 : decode cX4_here 1 = .ok (.getfield 10, 3) := by decide +kernel
theorem dX4_here_4 : decode cX4_here 4 = .ok (.iload_n 1, 1) := by decide +kernel
theorem dX4_here_5 : decode cX4_here 5 = .ok (.invokevirtual 62, 3) := by decide +kernel
theorem dX4_here_8 : decode cX4_here 8 = .ok (.ifCond .ne 6, 3) := by decide +kernel
theorem dX4_here_11 : decode cX4_here 11 = .ok (.bipush (-101), 2) := by decide +kernel
theorem dX4_here_13 : decode cX4_here 13 = .ok (.ireturn, 1) := by decide +kernel
theorem dX4_here_14 : decode cX4_here 14 = .ok (.aload_n 0, 1) := by decide +kernel
theorem dX4_here_15 : decode cX4_here 15 = .ok (.getfield 10, 3) := by decide +kernel
theorem dX4_here_18 : decode cX4_here 18 = .ok (.getfield 83, 3) := by decide +kernel
theorem dX4_here_21 : decode cX4_here 21 = .ok (.iload_n 1, 1) := by decide +kernel
theorem dX4_here_22 : decode cX4_here 22 = .ok (.baload, 1) := by decide +kernel
theorem dX4_here_23 : decode cX4_here 23 = .ok (.istore_n 3, 1) := by decide +kernel
theorem dX4_here_24 : decode cX4_here 24 = .ok (.aload_n 0, 1) := by decide +kernel
theorem dX4_here_25 : decode cX4_here 25 = .ok (.getfield 10, 3) := by decide +kernel
theorem dX4_here_28 : decode cX4_here 28 = .ok (.getfield 83, 3) := by decide +kernel
theorem dX4_here_31 : decode cX4_here 31 = .ok (.iload_n 1, 1) := by decide +kernel
theorem dX4_here_32 : decode cX4_here 32 = .ok (.iload_n 2, 1) := by decide +kernel
theorem dX4_here_33 : decode cX4_here 33 = .ok (.bastore, 1) := by decide +kernel
theorem dX4_here_34 : decode cX4_here 34 = .ok (.iload_n 3, 1) := by decide +kernel
theorem dX4_here_35 : decode cX4_here 35 = .ok (.ifCond .eq 7, 3) := by decide +kernel
theorem dX4_here_38 : decode cX4_here 38 = .ok (.iconst 1, 1) := by decide +kernel
theorem dX4_here_39 : decode cX4_here 39 = .ok (.goto 4, 3) := by decide +kernel
theorem dX4_here_42 : decode cX4_here 42 = .ok (.iconst 0, 1) := by decide +kernel
theorem dX4_here_43 : decode cX4_here 43 = .ok (.ireturn, 1) := by decide +kernel
set_option maxRecDepth 20000 in
theorem ggX4_voices_X1_hasPerson : GoodIn wsX4_voices wsX1_hasPerson := goodIn_r _ [7, 8, 18, 19, 20, 21, 22, 23, 24] (by decide +kernel) (by decide +kernel)
set_option maxRecDepth 20000 in
theorem gX4_voices_X1_hasPerson : GoodIn wsX4_voices (wsV RX4 62 RX1 yX1_hasPerson wsX1_hasPerson) := goodIn_app (goodIn_of _ (by decide +kernel)) ggX4_voices_X1_hasPerson
set_option maxRecDepth 20000 in
theorem ggX4_voices_X1_hasQuestion : GoodIn wsX4_voices wsX1_hasQuestion := goodIn_r _ [12, 13, 18, 19, 20, 21, 22, 23, 24] (by decide +kernel) (by decide +kernel)
set_option maxRecDepth 20000 in
theorem gX4_voices_X1_hasQuestion : GoodIn wsX4_voices (wsV RX4 66 RX1 yX1_hasQuestion wsX1_hasQuestion) := goodIn_app (goodIn_of _ (by decide +kernel)) ggX4_voices_X1_hasQuestion
theorem dX4_voices_0 : decode cX4_voices 0 = .ok (.aload_n 0, 1) := by decide +kernel
theorem dX4_voices_1 : decode cX4_voices 1 = .ok (.getfield 10, 3) := by decide +kernel
theorem dX4_voices_4 : decode cX4_voices 4 = .ok (.iload_n 1, 1) := by decide +kernel
theorem dX4_voices_5 : decode cX4_voices 5 = .ok (.invokevirtual 62, 3) := by decide +kernel
theorem dX4_voices_8 : decode cX4_voices 8 = .ok (.ifCond .eq 14, 3) := by decide +kernel
theorem dX4_voices_11 : decode cX4_voices 11 = .ok (.aload_n 0, 1) := by decide +kernel
theorem dX4_voices_12 : decode cX4_voices 12 = .ok (.getfield 10, 3) := by decide +kernel
theorem dX4_voices_15 : decode cX4_voices 15 = .ok (.iload_n 2, 1) := by decide +kernel
theorem dX4_voices_16 : decode cX4_voices 16 = .ok (.invokevirtual 66, 3) := by decide +kernel
theorem dX4_voices_19 : decode cX4_voices 19 = .ok (.ifCond .ne 7, 3) := by decide +kernel
theorem dX4_voices_22 : decode cX4_voices 22 = .ok (.sipush (-2000), 3) := by decide +kernel
theorem dX4_voices_25 : decode cX4_voices 25 = .ok (.ireturn, 1) := by decide +kernel
theorem dX4_voices_26 : decode cX4_voices 26 = .ok (.aload_n 0, 1) := by decide +kernel
theorem dX4_voices_27 : decode cX4_voices 27 = .ok (.getfield 10, 3) := by decide +kernel
theorem dX4_voices_30 : decode cX4_voices 30 = .ok (.getfield 69, 3) := by decide +kernel
theorem dX4_voices_33 : decode cX4_voices 33 = .ok (.iload_n 1, 1) := by decide +kernel
theorem dX4_voices_34 : decode cX4_voices 34 = .ok (.aaload, 1) := by decide +kernel
theorem dX4_voices_35 : decode cX4_voices 35 = .ok (.iload_n 2, 1) := by decide +kernel
theorem dX4_voices_36 : decode cX4_voices 36 = .ok (.iaload, 1) := by decide +kernel
theorem dX4_voices_37 : decode cX4_voices 37 = .ok (.ireturn, 1) := by decide +kernel
set_option maxRecDepth 20000 in
theorem ggX4_cost_X1_hasPerson : GoodIn wsX4_cost wsX1_hasPerson := goodIn_r _ [6, 7, 18, 19, 20, 21, 22, 23, 24] (by decide +kernel) (by decide +kernel)
set_option maxRecDepth 20000 in
theorem gX4_cost_X1_hasPerson : GoodIn wsX4_cost (wsV RX4 62 RX1 yX1_hasPerson wsX1_hasPerson) := goodIn_app (goodIn_of _ (by decide +kernel)) ggX4_cost_X1_hasPerson
set_option maxRecDepth 20000 in
theorem ggX4_cost_X1_costOf : GoodIn wsX4_cost wsX1_costOf := goodIn_r _ [11, 12, 13, 18, 19, 20, 21, 22, 23, 24] (by decide +kernel) (by decide +kernel)
set_option maxRecDepth 20000 in
theorem gX4_cost_X1_costOf : GoodIn wsX4_cost (wsV RX4 73 RX1 yX1_costOf wsX1_costOf) := goodIn_app (goodIn_of _ (by decide +kernel)) ggX4_cost_X1_costOf
theorem dX4_cost_0 : decode cX4_cost 0 = .ok (.aload_n 0, 1) := by decide +kernel
theorem dX4_cost_1 : decode cX4_cost 1 = .ok (.getfield 10, 3) := by decide +kernel
theorem dX4_cost_4 : decode cX4_cost 4 = .ok (.iload_n 1, 1) := by decide +kernel
theorem dX4_cost_5 : decode cX4_cost 5 = .ok (.invokevirtual 62, 3) := by decide +kernel
theorem dX4_cost_8 : decode cX4_cost 8 = .ok (.ifCond .ne 6, 3) := by decide +kernel
theorem dX4_cost_11 : decode cX4_cost 11 = .ok (.bipush (-101), 2) := by decide +kernel
theorem dX4_cost_13 : decode cX4_cost 13 = .ok (.ireturn, 1) := by decide +kernel
theorem dX4_cost_14 : decode cX4_cost 14 = .ok (.aload_n 0, 1) := by decide +kernel
theorem dX4_cost_15 : decode cX4_cost 15 = .ok (.getfield 10, 3) := by decide +kernel
theorem dX4_cost_18 : decode cX4_cost 18 = .ok (.iload_n 1, 1) := by decide +kernel
theorem dX4_cost_19 : decode cX4_cost 19 = .ok (.invokevirtual 73, 3) := by decide +kernel
theorem dX4_cost_22 : decode cX4_cost 22 = .ok (.ireturn, 1) := by decide +kernel
set_option maxRecDepth 20000 in
theorem ggX4_total_X1_hasQuestion : GoodIn wsX4_total wsX1_hasQuestion := goodIn_r _ [6, 7, 19, 20, 21, 22, 23, 24, 25] (by decide +kernel) (by decide +kernel)
set_option maxRecDepth 20000 in
theorem gX4_total_X1_hasQuestion : GoodIn wsX4_total (wsV RX4 66 RX1 yX1_hasQuestion wsX1_hasQuestion) := goodIn_app (goodIn_of _ (by decide +kernel)) ggX4_total_X1_hasQuestion
set_option maxRecDepth 20000 in
theorem ggX4_total_X1_countOf : GoodIn wsX4_total wsX1_countOf := goodIn_r _ [11, 12, 13, 14, 19, 20, 21, 22, 23, 24, 25] (by decide +kernel) (by decide +kernel)
set_option maxRecDepth 20000 in
theorem gX4_total_X1_countOf : GoodIn wsX4_total (wsV RX4 87 RX1 yX1_countOf wsX1_countOf) := goodIn_app (goodIn_of _ (by decide +kernel)) ggX4_total_X1_countOf
theorem dX4_total_0 : decode cX4_total 0 = .ok (.aload_n 0, 1) := by decide +kernel
theorem dX4_total_1 : decode cX4_total 1 = .ok (.getfield 10, 3) := by decide +kernel
theorem dX4_total_4 : decode cX4_total 4 = .ok (.iload_n 1, 1) := by decide +kernel
theorem dX4_total_5 : decode cX4_total 5 = .ok (.invokevirtual 66, 3) := by decide +kernel
theorem dX4_total_8 : decode cX4_total 8 = .ok (.ifCond .ne 7, 3) := by decide +kernel
theorem dX4_total_11 : decode cX4_total 11 = .ok (.sipush (-2000), 3) := by decide +kernel
theorem dX4_total_14 : decode cX4_total 14 = .ok (.ireturn, 1) := by decide +kernel
theorem dX4_total_15 : decode cX4_total 15 = .ok (.aload_n 0, 1) := by decide +kernel
theorem dX4_total_16 : decode cX4_total 16 = .ok (.getfield 10, 3) := by decide +kernel
theorem dX4_total_19 : decode cX4_total 19 = .ok (.iload_n 1, 1) := by decide +kernel
theorem dX4_total_20 : decode cX4_total 20 = .ok (.invokevirtual 87, 3) := by decide +kernel
theorem dX4_total_23 : decode cX4_total 23 = .ok (.ireturn, 1) := by decide +kernel
set_option maxRecDepth 20000 in
theorem ggX4_result_X1_hasQuestion : GoodIn wsX4_result wsX1_hasQuestion := goodIn_r _ [6, 7, 26, 27, 28, 29, 30, 31, 32] (by decide +kernel) (by decide +kernel)
set_option maxRecDepth 20000 in
theorem gX4_result_X1_hasQuestion : GoodIn wsX4_result (wsV RX4 66 RX1 yX1_hasQuestion wsX1_hasQuestion) := goodIn_app (goodIn_of _ (by decide +kernel)) ggX4_result_X1_hasQuestion
set_option maxRecDepth 20000 in
theorem ggX4_result_X1_countOf : GoodIn wsX4_result wsX1_countOf := goodIn_r _ [11, 12, 13, 14, 26, 27, 28, 29, 30, 31, 32] (by decide +kernel) (by decide +kernel)
set_option maxRecDepth 20000 in
theorem gX4_result_X1_countOf : GoodIn wsX4_result (wsV RX4 87 RX1 yX1_countOf wsX1_countOf) := goodIn_app (goodIn_of _ (by decide +kernel)) ggX4_result_X1_countOf
set_option maxRecDepth 20000 in
theorem ggX4_result_X1_resultOf : GoodIn wsX4_result wsX1_resultOf := goodIn_r _ [18, 19, 20, 21, 26, 27, 28, 29, 30, 31, 32] (by decide +kernel) (by decide +kernel)
set_option maxRecDepth 20000 in
theorem gX4_result_X1_resultOf : GoodIn wsX4_result (wsV RX4 90 RX1 yX1_resultOf wsX1_resultOf) := goodIn_app (goodIn_of _ (by decide +kernel)) ggX4_result_X1_resultOf
theorem dX4_result_0 : decode cX4_result 0 = .ok (.aload_n 0, 1) := by decide +kernel
theorem dX4_result_1 : decode cX4_result 1 = .ok (.getfield 10, 3) := by decide +kernel
theorem dX4_result_4 : decode cX4_result 4 = .ok (.iload_n 1, 1) := by decide +kernel
theorem dX4_result_5 : decode cX4_result 5 = .ok (.invokevirtual 66, 3) := by decide +kernel
theorem dX4_result_8 : decode cX4_result 8 = .ok (.ifCond .ne 6, 3) := by decide +kernel
theorem dX4_result_11 : decode cX4_result 11 = .ok (.bipush (-101), 2) := by decide +kernel
theorem dX4_result_13 : decode cX4_result 13 = .ok (.ireturn, 1) := by decide +kernel
theorem dX4_result_14 : decode cX4_result 14 = .ok (.aload_n 0, 1) := by decide +kernel
theorem dX4_result_15 : decode cX4_result 15 = .ok (.getfield 10, 3) := by decide +kernel
theorem dX4_result_18 : decode cX4_result 18 = .ok (.iload_n 1, 1) := by decide +kernel
theorem dX4_result_19 : decode cX4_result 19 = .ok (.aload_n 0, 1) := by decide +kernel
theorem dX4_result_20 : decode cX4_result 20 = .ok (.getfield 10, 3) := by decide +kernel
theorem dX4_result_23 : decode cX4_result 23 = .ok (.iload_n 1, 1) := by decide +kernel
theorem dX4_result_24 : decode cX4_result 24 = .ok (.invokevirtual 87, 3) := by decide +kernel
theorem dX4_result_27 : decode cX4_result 27 = .ok (.invokevirtual 90, 3) := by decide +kernel
theorem dX4_result_30 : decode cX4_result 30 = .ok (.ireturn, 1) := by decide +kernel
set_option maxRecDepth 20000 in
theorem ggX4_gain_X1_hasPerson : GoodIn wsX4_gain wsX1_hasPerson := goodIn_r _ [7, 8, 28, 29, 30, 31, 32, 33, 34] (by decide +kernel) (by decide +kernel)
set_option maxRecDepth 20000 in
theorem gX4_gain_X1_hasPerson : GoodIn wsX4_gain (wsV RX4 62 RX1 yX1_hasPerson wsX1_hasPerson) := goodIn_app (goodIn_of _ (by decide +kernel)) ggX4_gain_X1_hasPerson
set_option maxRecDepth 20000 in
theorem ggX4_gain_X1_gainOf : GoodIn wsX4_gain wsX1_gainOf := goodIn_r _ [12, 13, 14, 15, 16, 17, 6, 18, 8, 19, 20, 21, 22, 23, 28, 29, 30, 31, 32, 33, 34] (by decide +kernel) (by decide +kernel)
set_option maxRecDepth 20000 in
theorem gX4_gain_X1_gainOf : GoodIn wsX4_gain (wsV RX4 95 RX1 yX1_gainOf wsX1_gainOf) := goodIn_app (goodIn_of _ (by decide +kernel)) ggX4_gain_X1_gainOf
theorem dX4_gain_0 : decode cX4_gain 0 = .ok (.aload_n 0, 1) := by decide +kernel
theorem dX4_gain_1 : decode cX4_gain 1 = .ok (.getfield 10, 3) := by decide +kernel
theorem dX4_gain_4 : decode cX4_gain 4 = .ok (.iload_n 1, 1) := by decide +kernel
theorem dX4_gain_5 : decode cX4_gain 5 = .ok (.invokevirtual 62, 3) := by decide +kernel
theorem dX4_gain_8 : decode cX4_gain 8 = .ok (.ifCond .ne 6, 3) := by decide +kernel
theorem dX4_gain_11 : decode cX4_gain 11 = .ok (.ldc 94, 2) := by decide +kernel
theorem dX4_gain_13 : decode cX4_gain 13 = .ok (.ireturn, 1) := by decide +kernel
theorem dX4_gain_14 : decode cX4_gain 14 = .ok (.aload_n 0, 1) := by decide +kernel
theorem dX4_gain_15 : decode cX4_gain 15 = .ok (.getfield 10, 3) := by decide +kernel
theorem dX4_gain_18 : decode cX4_gain 18 = .ok (.iload_n 1, 1) := by decide +kernel
theorem dX4_gain_19 : decode cX4_gain 19 = .ok (.invokevirtual 95, 3) := by decide +kernel
theorem dX4_gain_22 : decode cX4_gain 22 = .ok (.ireturn, 1) := by decide +kernel
set_option maxRecDepth 20000 in
theorem ggX4_swings_X1_hasPerson : GoodIn wsX4_swings wsX1_hasPerson := goodIn_r _ [6, 7, 34, 35, 36, 37, 38, 39, 40] (by decide +kernel) (by decide +kernel)
set_option maxRecDepth 20000 in
theorem gX4_swings_X1_hasPerson : GoodIn wsX4_swings (wsV RX4 62 RX1 yX1_hasPerson wsX1_hasPerson) := goodIn_app (goodIn_of _ (by decide +kernel)) ggX4_swings_X1_hasPerson
set_option maxRecDepth 20000 in
theorem ggX4_swings_X1_swingsOf : GoodIn wsX4_swings wsX1_swingsOf := goodIn_r _ [11, 12, 13, 14, 15, 16, 5, 17, 18, 19, 20, 21, 22, 7, 23, 24, 25, 26, 27, 28, 29, 34, 35, 36, 37, 38, 39, 40] (by decide +kernel) (by decide +kernel)
set_option maxRecDepth 20000 in
theorem gX4_swings_X1_swingsOf : GoodIn wsX4_swings (wsV RX4 98 RX1 yX1_swingsOf wsX1_swingsOf) := goodIn_app (goodIn_of _ (by decide +kernel)) ggX4_swings_X1_swingsOf
theorem dX4_swings_0 : decode cX4_swings 0 = .ok (.aload_n 0, 1) := by decide +kernel
theorem dX4_swings_1 : decode cX4_swings 1 = .ok (.getfield 10, 3) := by decide +kernel
theorem dX4_swings_4 : decode cX4_swings 4 = .ok (.iload_n 1, 1) := by decide +kernel
theorem dX4_swings_5 : decode cX4_swings 5 = .ok (.invokevirtual 62, 3) := by decide +kernel
theorem dX4_swings_8 : decode cX4_swings 8 = .ok (.ifCond .ne 6, 3) := by decide +kernel
theorem dX4_swings_11 : decode cX4_swings 11 = .ok (.bipush (-101), 2) := by decide +kernel
theorem dX4_swings_13 : decode cX4_swings 13 = .ok (.ireturn, 1) := by decide +kernel
theorem dX4_swings_14 : decode cX4_swings 14 = .ok (.aload_n 0, 1) := by decide +kernel
theorem dX4_swings_15 : decode cX4_swings 15 = .ok (.getfield 10, 3) := by decide +kernel
theorem dX4_swings_18 : decode cX4_swings 18 = .ok (.iload_n 1, 1) := by decide +kernel
theorem dX4_swings_19 : decode cX4_swings 19 = .ok (.invokevirtual 98, 3) := by decide +kernel
theorem dX4_swings_22 : decode cX4_swings 22 = .ok (.ireturn, 1) := by decide +kernel
set_option maxRecDepth 20000 in
theorem ggX4_best_X1_hasPerson : GoodIn wsX4_best wsX1_hasPerson := goodIn_r _ [9, 10, 80, 81, 82, 83, 84, 85, 86] (by decide +kernel) (by decide +kernel)
set_option maxRecDepth 20000 in
theorem gX4_best_X1_hasPerson : GoodIn wsX4_best (wsV RX4 62 RX1 yX1_hasPerson wsX1_hasPerson) := goodIn_app (goodIn_of _ (by decide +kernel)) ggX4_best_X1_hasPerson
set_option maxRecDepth 20000 in
theorem ggX4_best_X3_findFor : GoodIn wsX4_best wsX3_findFor := goodIn_r _ [15, 16, 17, 18, 19, 20, 21, 22, 23, 24, 25, 26, 27, 28, 8, 29, 30, 31, 32, 33, 34, 35, 10, 36, 37, 38, 14, 39, 40, 41, 42, 43, 44, 45, 46, 47, 48, 49, 50, 51, 52, 53, 54, 55, 56, 57, 58, 59, 60, 61, 62, 63, 64, 65, 70, 71, 72, 73, 74, 75, 76, 77, 78, 79, 80, 81, 82, 83, 84, 85, 86] (by decide +kernel) (by decide +kernel)
set_option maxRecDepth 20000 in
theorem gX4_best_X3_findFor : GoodIn wsX4_best (wsV RX4 101 RX3 yX3_findFor wsX3_findFor) := goodIn_app (goodIn_of _ (by decide +kernel)) ggX4_best_X3_findFor
theorem dX4_best_0 : decode cX4_best 0 = .ok (.aload_n 0, 1) := by decide +kernel
theorem dX4_best_1 : decode cX4_best 1 = .ok (.getfield 10, 3) := by decide +kernel
theorem dX4_best_4 : decode cX4_best 4 = .ok (.iload_n 1, 1) := by decide +kernel
theorem dX4_best_5 : decode cX4_best 5 = .ok (.invokevirtual 62, 3) := by decide +kernel
theorem dX4_best_8 : decode cX4_best 8 = .ok (.ifCond .ne 6, 3) := by decide +kernel
theorem dX4_best_11 : decode cX4_best 11 = .ok (.ldc 94, 2) := by decide +kernel
theorem dX4_best_13 : decode cX4_best 13 = .ok (.ireturn, 1) := by decide +kernel
theorem dX4_best_14 : decode cX4_best 14 = .ok (.aload_n 0, 1) := by decide +kernel
theorem dX4_best_15 : decode cX4_best 15 = .ok (.getfield 21, 3) := by decide +kernel
theorem dX4_best_18 : decode cX4_best 18 = .ok (.iload_n 1, 1) := by decide +kernel
theorem dX4_best_19 : decode cX4_best 19 = .ok (.invokevirtual 101, 3) := by decide +kernel
theorem dX4_best_22 : decode cX4_best 22 = .ok (.aload_n 0, 1) := by decide +kernel
theorem dX4_best_23 : decode cX4_best 23 = .ok (.getfield 21, 3) := by decide +kernel
theorem dX4_best_26 : decode cX4_best 26 = .ok (.getfield 105, 3) := by decide +kernel
theorem dX4_best_29 : decode cX4_best 29 = .ok (.ireturn, 1) := by decide +kernel
set_option maxRecDepth 20000 in
theorem ggX4_answer_X1_hasPerson : GoodIn wsX4_answer wsX1_hasPerson := goodIn_r _ [8, 9, 84, 85, 86, 87, 88, 89, 90] (by decide +kernel) (by decide +kernel)
set_option maxRecDepth 20000 in
theorem gX4_answer_X1_hasPerson : GoodIn wsX4_answer (wsV RX4 62 RX1 yX1_hasPerson wsX1_hasPerson) := goodIn_app (goodIn_of _ (by decide +kernel)) ggX4_answer_X1_hasPerson
set_option maxRecDepth 20000 in
theorem ggX4_answer_X1_hasQuestion : GoodIn wsX4_answer wsX1_hasQuestion := goodIn_r _ [13, 14, 84, 85, 86, 87, 88, 89, 90] (by decide +kernel) (by decide +kernel)
set_option maxRecDepth 20000 in
theorem gX4_answer_X1_hasQuestion : GoodIn wsX4_answer (wsV RX4 66 RX1 yX1_hasQuestion wsX1_hasQuestion) := goodIn_app (goodIn_of _ (by decide +kernel)) ggX4_answer_X1_hasQuestion
set_option maxRecDepth 20000 in
theorem ggX4_answer_X3_findFor : GoodIn wsX4_answer wsX3_findFor := goodIn_r _ [19, 20, 21, 22, 23, 24, 25, 26, 27, 28, 29, 30, 31, 32, 7, 33, 34, 35, 36, 37, 38, 39, 9, 40, 41, 42, 18, 43, 44, 45, 46, 47, 48, 49, 50, 51, 52, 53, 54, 55, 56, 57, 58, 59, 60, 61, 62, 63, 64, 65, 66, 67, 68, 69, 74, 75, 76, 77, 78, 79, 80, 81, 82, 83, 84, 85, 86, 87, 88, 89, 90] (by decide +kernel) (by decide +kernel)
set_option maxRecDepth 20000 in
theorem gX4_answer_X3_findFor : GoodIn wsX4_answer (wsV RX4 101 RX3 yX3_findFor wsX3_findFor) := goodIn_app (goodIn_of _ (by decide +kernel)) ggX4_answer_X3_findFor
theorem dX4_answer_0 : decode cX4_answer 0 = .ok (.aload_n 0, 1) := by decide +kernel
theorem dX4_answer_1 : decode cX4_answer 1 = .ok (.getfield 10, 3) := by decide +kernel
theorem dX4_answer_4 : decode cX4_answer 4 = .ok (.iload_n 1, 1) := by decide +kernel
theorem dX4_answer_5 : decode cX4_answer 5 = .ok (.invokevirtual 62, 3) := by decide +kernel
theorem dX4_answer_8 : decode cX4_answer 8 = .ok (.ifCond .eq 14, 3) := by decide +kernel
theorem dX4_answer_11 : decode cX4_answer 11 = .ok (.aload_n 0, 1) := by decide +kernel
theorem dX4_answer_12 : decode cX4_answer 12 = .ok (.getfield 10, 3) := by decide +kernel
theorem dX4_answer_15 : decode cX4_answer 15 = .ok (.iload_n 2, 1) := by decide +kernel
theorem dX4_answer_16 : decode cX4_answer 16 = .ok (.invokevirtual 66, 3) := by decide +kernel
theorem dX4_answer_19 : decode cX4_answer 19 = .ok (.ifCond .ne 7, 3) := by decide +kernel
theorem dX4_answer_22 : decode cX4_answer 22 = .ok (.sipush (-2000), 3) := by decide +kernel
theorem dX4_answer_25 : decode cX4_answer 25 = .ok (.ireturn, 1) := by decide +kernel
theorem dX4_answer_26 : decode cX4_answer 26 = .ok (.aload_n 0, 1) := by decide +kernel
theorem dX4_answer_27 : decode cX4_answer 27 = .ok (.getfield 21, 3) := by decide +kernel
theorem dX4_answer_30 : decode cX4_answer 30 = .ok (.iload_n 1, 1) := by decide +kernel
theorem dX4_answer_31 : decode cX4_answer 31 = .ok (.invokevirtual 101, 3) := by decide +kernel
theorem dX4_answer_34 : decode cX4_answer 34 = .ok (.aload_n 0, 1) := by decide +kernel
theorem dX4_answer_35 : decode cX4_answer 35 = .ok (.getfield 21, 3) := by decide +kernel
theorem dX4_answer_38 : decode cX4_answer 38 = .ok (.getfield 108, 3) := by decide +kernel
theorem dX4_answer_41 : decode cX4_answer 41 = .ok (.iload_n 2, 1) := by decide +kernel
theorem dX4_answer_42 : decode cX4_answer 42 = .ok (.iaload, 1) := by decide +kernel
theorem dX4_answer_43 : decode cX4_answer 43 = .ok (.ireturn, 1) := by decide +kernel
set_option maxRecDepth 20000 in
theorem ggX4_take_X1_hasPerson : GoodIn wsX4_take wsX1_hasPerson := goodIn_r _ [8, 9, 79, 80, 81, 82, 83, 84, 85] (by decide +kernel) (by decide +kernel)
set_option maxRecDepth 20000 in
theorem gX4_take_X1_hasPerson : GoodIn wsX4_take (wsV RX4 62 RX1 yX1_hasPerson wsX1_hasPerson) := goodIn_app (goodIn_of _ (by decide +kernel)) ggX4_take_X1_hasPerson
set_option maxRecDepth 20000 in
theorem ggX4_take_X3_findFor : GoodIn wsX4_take wsX3_findFor := goodIn_r _ [14, 15, 16, 17, 18, 19, 20, 21, 22, 23, 24, 25, 26, 27, 7, 28, 29, 30, 31, 32, 33, 34, 9, 35, 36, 37, 13, 38, 39, 40, 41, 42, 43, 44, 45, 46, 47, 48, 49, 50, 51, 52, 53, 54, 55, 56, 57, 58, 59, 60, 61, 62, 63, 64, 86, 87, 88, 89, 90, 91, 92, 93, 94, 95, 79, 80, 81, 82, 83, 84, 85] (by decide +kernel) (by decide +kernel)
set_option maxRecDepth 20000 in
theorem gX4_take_X3_findFor : GoodIn wsX4_take (wsV RX4 101 RX3 yX3_findFor wsX3_findFor) := goodIn_app (goodIn_of _ (by decide +kernel)) ggX4_take_X3_findFor
set_option maxRecDepth 20000 in
theorem ggX4_take_X3_giveTo : GoodIn wsX4_take wsX3_giveTo := goodIn_r _ [68, 56, 15, 69, 22, 57, 58, 59, 60, 86, 87, 88, 89, 90, 91, 92, 93, 94, 95, 79, 80, 81, 82, 83, 84, 85] (by decide +kernel) (by decide +kernel)
set_option maxRecDepth 20000 in
theorem gX4_take_X3_giveTo : GoodIn wsX4_take (wsV RX4 111 RX3 yX3_giveTo wsX3_giveTo) := goodIn_app (goodIn_of _ (by decide +kernel)) ggX4_take_X3_giveTo
set_option maxRecDepth 20000 in
theorem ggX4_take_X1_costOf : GoodIn wsX4_take wsX1_costOf := goodIn_r _ [73, 74, 30, 79, 80, 81, 82, 83, 84, 85] (by decide +kernel) (by decide +kernel)
set_option maxRecDepth 20000 in
theorem gX4_take_X1_costOf : GoodIn wsX4_take (wsV RX4 73 RX1 yX1_costOf wsX1_costOf) := goodIn_app (goodIn_of _ (by decide +kernel)) ggX4_take_X1_costOf
theorem dX4_take_0 : decode cX4_take 0 = .ok (.aload_n 0, 1) := by decide +kernel
theorem dX4_take_1 : decode cX4_take 1 = .ok (.getfield 10, 3) := by decide +kernel
theorem dX4_take_4 : decode cX4_take 4 = .ok (.iload_n 1, 1) := by decide +kernel
theorem dX4_take_5 : decode cX4_take 5 = .ok (.invokevirtual 62, 3) := by decide +kernel
theorem dX4_take_8 : decode cX4_take 8 = .ok (.ifCond .ne 6, 3) := by decide +kernel
theorem dX4_take_11 : decode cX4_take 11 = .ok (.bipush (-101), 2) := by decide +kernel
theorem dX4_take_13 : decode cX4_take 13 = .ok (.ireturn, 1) := by decide +kernel
theorem dX4_take_14 : decode cX4_take 14 = .ok (.aload_n 0, 1) := by decide +kernel
theorem dX4_take_15 : decode cX4_take 15 = .ok (.getfield 10, 3) := by decide +kernel
theorem dX4_take_18 : decode cX4_take 18 = .ok (.getfield 83, 3) := by decide +kernel
theorem dX4_take_21 : decode cX4_take 21 = .ok (.iload_n 1, 1) := by decide +kernel
theorem dX4_take_22 : decode cX4_take 22 = .ok (.baload, 1) := by decide +kernel
theorem dX4_take_23 : decode cX4_take 23 = .ok (.ifCond .ne 6, 3) := by decide +kernel
theorem dX4_take_26 : decode cX4_take 26 = .ok (.bipush (-103), 2) := by decide +kernel
theorem dX4_take_28 : decode cX4_take 28 = .ok (.ireturn, 1) := by decide +kernel
theorem dX4_take_29 : decode cX4_take 29 = .ok (.aload_n 0, 1) := by decide +kernel
theorem dX4_take_30 : decode cX4_take 30 = .ok (.getfield 21, 3) := by decide +kernel
theorem dX4_take_33 : decode cX4_take 33 = .ok (.iload_n 1, 1) := by decide +kernel
theorem dX4_take_34 : decode cX4_take 34 = .ok (.invokevirtual 101, 3) := by decide +kernel
theorem dX4_take_37 : decode cX4_take 37 = .ok (.aload_n 0, 1) := by decide +kernel
theorem dX4_take_38 : decode cX4_take 38 = .ok (.getfield 21, 3) := by decide +kernel
theorem dX4_take_41 : decode cX4_take 41 = .ok (.iload_n 1, 1) := by decide +kernel
theorem dX4_take_42 : decode cX4_take 42 = .ok (.invokevirtual 111, 3) := by decide +kernel
theorem dX4_take_45 : decode cX4_take 45 = .ok (.aload_n 0, 1) := by decide +kernel
theorem dX4_take_46 : decode cX4_take 46 = .ok (.getfield 10, 3) := by decide +kernel
theorem dX4_take_49 : decode cX4_take 49 = .ok (.iload_n 1, 1) := by decide +kernel
theorem dX4_take_50 : decode cX4_take 50 = .ok (.invokevirtual 73, 3) := by decide +kernel
theorem dX4_take_53 : decode cX4_take 53 = .ok (.ireturn, 1) := by decide +kernel
set_option maxRecDepth 20000 in
theorem ggX4_play_X4_isWithin : GoodIn wsX4_play wsX4_isWithin := goodIn_r _ [5] (by decide +kernel) (by decide +kernel)
set_option maxRecDepth 20000 in
theorem gX4_play_X4_isWithin : GoodIn wsX4_play (va_wsS RX4 41 yX4_isWithin wsX4_isWithin) := goodIn_app (goodIn_of _ (by decide +kernel)) ggX4_play_X4_isWithin
set_option maxRecDepth 20000 in
theorem ggX4_play_X2_playAtMost : GoodIn wsX4_play wsX2_playAtMost := goodIn_r _ [10, 11, 12, 13, 14, 15, 16, 17, 9, 18, 19, 20, 21, 22, 23, 24, 25, 26, 27, 28, 29, 30, 31, 32, 33, 34, 35, 36, 37, 38, 39, 40, 41, 42, 43, 44, 45, 46, 47, 48, 49, 50, 51, 52, 53, 54, 55, 56, 57, 58, 59, 60, 61, 62, 63, 64, 65, 66, 67, 68, 69, 70, 71, 72, 73, 74, 75, 76, 77, 78, 79, 80, 81, 82, 83, 84, 85, 86, 87, 88, 89, 90, 91, 92, 93, 94, 95, 96, 97, 98, 99, 100, 101, 102, 103, 104, 105, 106, 107, 108, 109, 110, 111, 116, 117, 118, 119, 120, 121, 122, 123, 124, 125, 126, 127, 128, 129, 130, 131, 132, 133, 134, 135, 136, 137, 138, 139] (by decide +kernel) (by decide +kernel)
set_option maxRecDepth 20000 in
theorem gX4_play_X2_playAtMost : GoodIn wsX4_play (wsV RX4 114 RX2 yX2_playAtMost wsX2_playAtMost) := goodIn_app (goodIn_of _ (by decide +kernel)) ggX4_play_X2_playAtMost
theorem dX4_play_0 : decode cX4_play 0 = .ok (.iload_n 1, 1) := by decide +kernel
theorem dX4_play_1 : decode cX4_play 1 = .ok (.iconst 1, 1) := by decide +kernel
theorem dX4_play_2 : decode cX4_play 2 = .ok (.bipush 30, 2) := by decide +kernel
theorem dX4_play_4 : decode cX4_play 4 = .ok (.invokestatic 41, 3) := by decide +kernel
theorem dX4_play_7 : decode cX4_play 7 = .ok (.ifCond .ne 6, 3) := by decide +kernel
theorem dX4_play_10 : decode cX4_play 10 = .ok (.bipush (-102), 2) := by decide +kernel
theorem dX4_play_12 : decode cX4_play 12 = .ok (.ireturn, 1) := by decide +kernel
theorem dX4_play_13 : decode cX4_play 13 = .ok (.aload_n 0, 1) := by decide +kernel
theorem dX4_play_14 : decode cX4_play 14 = .ok (.getfield 30, 3) := by decide +kernel
theorem dX4_play_17 : decode cX4_play 17 = .ok (.iload_n 1, 1) := by decide +kernel
theorem dX4_play_18 : decode cX4_play 18 = .ok (.invokevirtual 114, 3) := by decide +kernel
theorem dX4_play_21 : decode cX4_play 21 = .ok (.ireturn, 1) := by decide +kernel
theorem dX4_ended_0 : decode cX4_ended 0 = .ok (.aload_n 0, 1) := by decide +kernel
theorem dX4_ended_1 : decode cX4_ended 1 = .ok (.getfield 30, 3) := by decide +kernel
theorem dX4_ended_4 : decode cX4_ended 4 = .ok (.getfield 117, 3) := by decide +kernel
theorem dX4_ended_7 : decode cX4_ended 7 = .ok (.ireturn, 1) := by decide +kernel
theorem dX4_ring_0 : decode cX4_ring 0 = .ok (.aload_n 0, 1) := by decide +kernel
theorem dX4_ring_1 : decode cX4_ring 1 = .ok (.getfield 30, 3) := by decide +kernel
theorem dX4_ring_4 : decode cX4_ring 4 = .ok (.getfield 120, 3) := by decide +kernel
theorem dX4_ring_7 : decode cX4_ring 7 = .ok (.ireturn, 1) := by decide +kernel
set_option maxRecDepth 20000 in
theorem ggX4_gift_X1_hasPerson : GoodIn wsX4_gift wsX1_hasPerson := goodIn_r _ [9, 10, 30, 31, 32, 33, 34, 35, 36] (by decide +kernel) (by decide +kernel)
set_option maxRecDepth 20000 in
theorem gX4_gift_X1_hasPerson : GoodIn wsX4_gift (wsV RX4 62 RX1 yX1_hasPerson wsX1_hasPerson) := goodIn_app (goodIn_of _ (by decide +kernel)) ggX4_gift_X1_hasPerson
set_option maxRecDepth 20000 in
theorem ggX4_gift_X0_hasProject : GoodIn wsX4_gift wsX0_hasProject := goodIn_r _ [15, 16, 25, 26, 27, 28, 29] (by decide +kernel) (by decide +kernel)
set_option maxRecDepth 20000 in
theorem gX4_gift_X0_hasProject : GoodIn wsX4_gift (wsV RX4 123 RX0 yX0_hasProject wsX0_hasProject) := goodIn_app (goodIn_of _ (by decide +kernel)) ggX4_gift_X0_hasProject
set_option maxRecDepth 20000 in
theorem ggX4_gift_X4_isWithin : GoodIn wsX4_gift wsX4_isWithin := goodIn_r _ [20] (by decide +kernel) (by decide +kernel)
set_option maxRecDepth 20000 in
theorem gX4_gift_X4_isWithin : GoodIn wsX4_gift (va_wsS RX4 41 yX4_isWithin wsX4_isWithin) := goodIn_app (goodIn_of _ (by decide +kernel)) ggX4_gift_X4_isWithin
theorem dX4_gift_0 : decode cX4_gift 0 = .ok (.aload_n 0, 1) := by decide +kernel
theorem dX4_gift_1 : decode cX4_gift 1 = .ok (.getfield 10, 3) := by decide +kernel
theorem dX4_gift_4 : decode cX4_gift 4 = .ok (.iload_n 1, 1) := by decide +kernel
theorem dX4_gift_5 : decode cX4_gift 5 = .ok (.invokevirtual 62, 3) := by decide +kernel
theorem dX4_gift_8 : decode cX4_gift 8 = .ok (.ifCond .eq 14, 3) := by decide +kernel
theorem dX4_gift_11 : decode cX4_gift 11 = .ok (.aload_n 0, 1) := by decide +kernel
theorem dX4_gift_12 : decode cX4_gift 12 = .ok (.getfield 37, 3) := by decide +kernel
theorem dX4_gift_15 : decode cX4_gift 15 = .ok (.iload_n 2, 1) := by decide +kernel
theorem dX4_gift_16 : decode cX4_gift 16 = .ok (.invokevirtual 123, 3) := by decide +kernel
theorem dX4_gift_19 : decode cX4_gift 19 = .ok (.ifCond .ne 6, 3) := by decide +kernel
theorem dX4_gift_22 : decode cX4_gift 22 = .ok (.bipush (-101), 2) := by decide +kernel
theorem dX4_gift_24 : decode cX4_gift 24 = .ok (.ireturn, 1) := by decide +kernel
theorem dX4_gift_25 : decode cX4_gift 25 = .ok (.iload_n 3, 1) := by decide +kernel
theorem dX4_gift_26 : decode cX4_gift 26 = .ok (.iconst 0, 1) := by decide +kernel
theorem dX4_gift_27 : decode cX4_gift 27 = .ok (.ldc 126, 2) := by decide +kernel
theorem dX4_gift_29 : decode cX4_gift 29 = .ok (.invokestatic 41, 3) := by decide +kernel
theorem dX4_gift_32 : decode cX4_gift 32 = .ok (.ifCond .ne 6, 3) := by decide +kernel
theorem dX4_gift_35 : decode cX4_gift 35 = .ok (.bipush (-102), 2) := by decide +kernel
theorem dX4_gift_37 : decode cX4_gift 37 = .ok (.ireturn, 1) := by decide +kernel
theorem dX4_gift_38 : decode cX4_gift 38 = .ok (.aload_n 0, 1) := by decide +kernel
theorem dX4_gift_39 : decode cX4_gift 39 = .ok (.getfield 37, 3) := by decide +kernel
theorem dX4_gift_42 : decode cX4_gift 42 = .ok (.getfield 127, 3) := by decide +kernel
theorem dX4_gift_45 : decode cX4_gift 45 = .ok (.iload_n 1, 1) := by decide +kernel
theorem dX4_gift_46 : decode cX4_gift 46 = .ok (.aaload, 1) := by decide +kernel
theorem dX4_gift_47 : decode cX4_gift 47 = .ok (.iload_n 2, 1) := by decide +kernel
theorem dX4_gift_48 : decode cX4_gift 48 = .ok (.iaload, 1) := by decide +kernel
theorem dX4_gift_49 : decode cX4_gift 49 = .ok (.istore 4, 2) := by decide +kernel
theorem dX4_gift_51 : decode cX4_gift 51 = .ok (.aload_n 0, 1) := by decide +kernel
theorem dX4_gift_52 : decode cX4_gift 52 = .ok (.getfield 37, 3) := by decide +kernel
theorem dX4_gift_55 : decode cX4_gift 55 = .ok (.getfield 127, 3) := by decide +kernel
theorem dX4_gift_58 : decode cX4_gift 58 = .ok (.iload_n 1, 1) := by decide +kernel
theorem dX4_gift_59 : decode cX4_gift 59 = .ok (.aaload, 1) := by decide +kernel
theorem dX4_gift_60 : decode cX4_gift 60 = .ok (.iload_n 2, 1) := by decide +kernel
theorem dX4_gift_61 : decode cX4_gift 61 = .ok (.iload_n 3, 1) := by decide +kernel
theorem dX4_gift_62 : decode cX4_gift 62 = .ok (.iastore, 1) := by decide +kernel
theorem dX4_gift_63 : decode cX4_gift 63 = .ok (.iload 4, 2) := by decide +kernel
theorem dX4_gift_65 : decode cX4_gift 65 = .ok (.ireturn, 1) := by decide +kernel
set_option maxRecDepth 20000 in
theorem ggX4_bond_X1_hasPerson : GoodIn wsX4_bond wsX1_hasPerson := goodIn_r _ [8, 9, 23, 24, 25, 26, 27, 28, 29] (by decide +kernel) (by decide +kernel)
set_option maxRecDepth 20000 in
theorem gX4_bond_X1_hasPerson : GoodIn wsX4_bond (wsV RX4 62 RX1 yX1_hasPerson wsX1_hasPerson) := goodIn_app (goodIn_of _ (by decide +kernel)) ggX4_bond_X1_hasPerson
set_option maxRecDepth 20000 in
theorem ggX4_bond_X4_isWithin : GoodIn wsX4_bond wsX4_isWithin := goodIn_r _ [13] (by decide +kernel) (by decide +kernel)
set_option maxRecDepth 20000 in
theorem gX4_bond_X4_isWithin : GoodIn wsX4_bond (va_wsS RX4 41 yX4_isWithin wsX4_isWithin) := goodIn_app (goodIn_of _ (by decide +kernel)) ggX4_bond_X4_isWithin
theorem dX4_bond_0 : decode cX4_bond 0 = .ok (.aload_n 0, 1) := by decide +kernel
theorem dX4_bond_1 : decode cX4_bond 1 = .ok (.getfield 10, 3) := by decide +kernel
theorem dX4_bond_4 : decode cX4_bond 4 = .ok (.iload_n 1, 1) := by decide +kernel
theorem dX4_bond_5 : decode cX4_bond 5 = .ok (.invokevirtual 62, 3) := by decide +kernel
theorem dX4_bond_8 : decode cX4_bond 8 = .ok (.ifCond .eq 14, 3) := by decide +kernel
theorem dX4_bond_11 : decode cX4_bond 11 = .ok (.aload_n 0, 1) := by decide +kernel
theorem dX4_bond_12 : decode cX4_bond 12 = .ok (.getfield 10, 3) := by decide +kernel
theorem dX4_bond_15 : decode cX4_bond 15 = .ok (.iload_n 2, 1) := by decide +kernel
theorem dX4_bond_16 : decode cX4_bond 16 = .ok (.invokevirtual 62, 3) := by decide +kernel
theorem dX4_bond_19 : decode cX4_bond 19 = .ok (.ifCond .ne 6, 3) := by decide +kernel
theorem dX4_bond_22 : decode cX4_bond 22 = .ok (.bipush (-101), 2) := by decide +kernel
theorem dX4_bond_24 : decode cX4_bond 24 = .ok (.ireturn, 1) := by decide +kernel
theorem dX4_bond_25 : decode cX4_bond 25 = .ok (.iload_n 1, 1) := by decide +kernel
theorem dX4_bond_26 : decode cX4_bond 26 = .ok (.iload_n 2, 1) := by decide +kernel
theorem dX4_bond_27 : decode cX4_bond 27 = .ok (.if_icmp .eq 14, 3) := by decide +kernel
theorem dX4_bond_30 : decode cX4_bond 30 = .ok (.iload_n 3, 1) := by decide +kernel
theorem dX4_bond_31 : decode cX4_bond 31 = .ok (.iconst 0, 1) := by decide +kernel
theorem dX4_bond_32 : decode cX4_bond 32 = .ok (.sipush 1000, 3) := by decide +kernel
theorem dX4_bond_35 : decode cX4_bond 35 = .ok (.invokestatic 41, 3) := by decide +kernel
theorem dX4_bond_38 : decode cX4_bond 38 = .ok (.ifCond .ne 6, 3) := by decide +kernel
theorem dX4_bond_41 : decode cX4_bond 41 = .ok (.bipush (-102), 2) := by decide +kernel
theorem dX4_bond_43 : decode cX4_bond 43 = .ok (.ireturn, 1) := by decide +kernel
theorem dX4_bond_44 : decode cX4_bond 44 = .ok (.aload_n 0, 1) := by decide +kernel
theorem dX4_bond_45 : decode cX4_bond 45 = .ok (.getfield 37, 3) := by decide +kernel
theorem dX4_bond_48 : decode cX4_bond 48 = .ok (.getfield 130, 3) := by decide +kernel
theorem dX4_bond_51 : decode cX4_bond 51 = .ok (.iload_n 1, 1) := by decide +kernel
theorem dX4_bond_52 : decode cX4_bond 52 = .ok (.aaload, 1) := by decide +kernel
theorem dX4_bond_53 : decode cX4_bond 53 = .ok (.iload_n 2, 1) := by decide +kernel
theorem dX4_bond_54 : decode cX4_bond 54 = .ok (.iaload, 1) := by decide +kernel
theorem dX4_bond_55 : decode cX4_bond 55 = .ok (.istore 4, 2) := by decide +kernel
theorem dX4_bond_57 : decode cX4_bond 57 = .ok (.aload_n 0, 1) := by decide +kernel
theorem dX4_bond_58 : decode cX4_bond 58 = .ok (.getfield 37, 3) := by decide +kernel
theorem dX4_bond_61 : decode cX4_bond 61 = .ok (.getfield 130, 3) := by decide +kernel
theorem dX4_bond_64 : decode cX4_bond 64 = .ok (.iload_n 1, 1) := by decide +kernel
theorem dX4_bond_65 : decode cX4_bond 65 = .ok (.aaload, 1) := by decide +kernel
theorem dX4_bond_66 : decode cX4_bond 66 = .ok (.iload_n 2, 1) := by decide +kernel
theorem dX4_bond_67 : decode cX4_bond 67 = .ok (.iload_n 3, 1) := by decide +kernel
theorem dX4_bond_68 : decode cX4_bond 68 = .ok (.iastore, 1) := by decide +kernel
theorem dX4_bond_69 : decode cX4_bond 69 = .ok (.aload_n 0, 1) := by decide +kernel
theorem dX4_bond_70 : decode cX4_bond 70 = .ok (.getfield 37, 3) := by decide +kernel
theorem dX4_bond_73 : decode cX4_bond 73 = .ok (.getfield 130, 3) := by decide +kernel
theorem dX4_bond_76 : decode cX4_bond 76 = .ok (.iload_n 2, 1) := by decide +kernel
theorem dX4_bond_77 : decode cX4_bond 77 = .ok (.aaload, 1) := by decide +kernel
theorem dX4_bond_78 : decode cX4_bond 78 = .ok (.iload_n 1, 1) := by decide +kernel
theorem dX4_bond_79 : decode cX4_bond 79 = .ok (.iload_n 3, 1) := by decide +kernel
theorem dX4_bond_80 : decode cX4_bond 80 = .ok (.iastore, 1) := by decide +kernel
theorem dX4_bond_81 : decode cX4_bond 81 = .ok (.iload 4, 2) := by decide +kernel
theorem dX4_bond_83 : decode cX4_bond 83 = .ok (.ireturn, 1) := by decide +kernel
set_option maxRecDepth 20000 in
theorem ggX4_matched_X0_hasProject : GoodIn wsX4_matched wsX0_hasProject := goodIn_r _ [8, 9, 44, 45, 46, 47, 48] (by decide +kernel) (by decide +kernel)
set_option maxRecDepth 20000 in
theorem gX4_matched_X0_hasProject : GoodIn wsX4_matched (wsV RX4 123 RX0 yX0_hasProject wsX0_hasProject) := goodIn_app (goodIn_of _ (by decide +kernel)) ggX4_matched_X0_hasProject
set_option maxRecDepth 20000 in
theorem ggX4_matched_X4_isWithin : GoodIn wsX4_matched wsX4_isWithin := goodIn_r _ [13] (by decide +kernel) (by decide +kernel)
set_option maxRecDepth 20000 in
theorem gX4_matched_X4_isWithin : GoodIn wsX4_matched (va_wsS RX4 41 yX4_isWithin wsX4_isWithin) := goodIn_app (goodIn_of _ (by decide +kernel)) ggX4_matched_X4_isWithin
set_option maxRecDepth 20000 in
theorem ggX4_matched_X0_matchedLow : GoodIn wsX4_matched wsX0_matchedLow := goodIn_r _ [17, 18, 19, 20, 21, 22, 23, 24, 25, 7, 26, 27, 28, 29, 30, 31, 32, 44, 45, 46, 47, 48, 49, 50, 51, 52, 53, 54, 55] (by decide +kernel) (by decide +kernel)
set_option maxRecDepth 20000 in
theorem gX4_matched_X0_matchedLow : GoodIn wsX4_matched (wsV RX4 137 RX0 yX0_matchedLow wsX0_matchedLow) := goodIn_app (goodIn_of _ (by decide +kernel)) ggX4_matched_X0_matchedLow
set_option maxRecDepth 20000 in
theorem ggX4_matched_X0_matchedHigh : GoodIn wsX4_matched wsX0_matchedHigh := goodIn_r _ [36, 18, 19, 20, 21, 22, 23, 24, 25, 7, 26, 27, 28, 37, 38, 39, 29, 30, 31, 32, 44, 45, 46, 47, 48, 49, 50, 51, 52, 53, 54, 55] (by decide +kernel) (by decide +kernel)
set_option maxRecDepth 20000 in
theorem gX4_matched_X0_matchedHigh : GoodIn wsX4_matched (wsV RX4 141 RX0 yX0_matchedHigh wsX0_matchedHigh) := goodIn_app (goodIn_of _ (by decide +kernel)) ggX4_matched_X0_matchedHigh
theorem dX4_matched_0 : decode cX4_matched 0 = .ok (.aload_n 0, 1) := by decide +kernel
theorem dX4_matched_1 : decode cX4_matched 1 = .ok (.getfield 37, 3) := by decide +kernel
theorem dX4_matched_4 : decode cX4_matched 4 = .ok (.iload_n 1, 1) := by decide +kernel
theorem dX4_matched_5 : decode cX4_matched 5 = .ok (.invokevirtual 123, 3) := by decide +kernel
theorem dX4_matched_8 : decode cX4_matched 8 = .ok (.ifCond .ne 7, 3) := by decide +kernel
theorem dX4_matched_11 : decode cX4_matched 11 = .ok (.ldc2_w 133, 3) := by decide +kernel
theorem dX4_matched_14 : decode cX4_matched 14 = .ok (.lreturn, 1) := by decide +kernel
theorem dX4_matched_15 : decode cX4_matched 15 = .ok (.iload_n 2, 1) := by decide +kernel
theorem dX4_matched_16 : decode cX4_matched 16 = .ok (.iconst 0, 1) := by decide +kernel
theorem dX4_matched_17 : decode cX4_matched 17 = .ok (.iconst 1, 1) := by decide +kernel
theorem dX4_matched_18 : decode cX4_matched 18 = .ok (.invokestatic 41, 3) := by decide +kernel
theorem dX4_matched_21 : decode cX4_matched 21 = .ok (.ifCond .ne 7, 3) := by decide +kernel
theorem dX4_matched_24 : decode cX4_matched 24 = .ok (.ldc2_w 135, 3) := by decide +kernel
theorem dX4_matched_27 : decode cX4_matched 27 = .ok (.lreturn, 1) := by decide +kernel
theorem dX4_matched_28 : decode cX4_matched 28 = .ok (.iload_n 2, 1) := by decide +kernel
theorem dX4_matched_29 : decode cX4_matched 29 = .ok (.ifCond .ne 14, 3) := by decide +kernel
theorem dX4_matched_32 : decode cX4_matched 32 = .ok (.aload_n 0, 1) := by decide +kernel
theorem dX4_matched_33 : decode cX4_matched 33 = .ok (.getfield 37, 3) := by decide +kernel
theorem dX4_matched_36 : decode cX4_matched 36 = .ok (.iload_n 1, 1) := by decide +kernel
theorem dX4_matched_37 : decode cX4_matched 37 = .ok (.invokevirtual 137, 3) := by decide +kernel
theorem dX4_matched_40 : decode cX4_matched 40 = .ok (.goto 11, 3) := by decide +kernel
theorem dX4_matched_43 : decode cX4_matched 43 = .ok (.aload_n 0, 1) := by decide +kernel
theorem dX4_matched_44 : decode cX4_matched 44 = .ok (.getfield 37, 3) := by decide +kernel
theorem dX4_matched_47 : decode cX4_matched 47 = .ok (.iload_n 1, 1) := by decide +kernel
theorem dX4_matched_48 : decode cX4_matched 48 = .ok (.invokevirtual 141, 3) := by decide +kernel
theorem dX4_matched_51 : decode cX4_matched 51 = .ok (.lreturn, 1) := by decide +kernel
set_option maxRecDepth 20000 in
theorem ggX4_share_X0_hasProject : GoodIn wsX4_share wsX0_hasProject := goodIn_r _ [9, 10, 39, 40, 41, 42, 43] (by decide +kernel) (by decide +kernel)
set_option maxRecDepth 20000 in
theorem gX4_share_X0_hasProject : GoodIn wsX4_share (wsV RX4 123 RX0 yX0_hasProject wsX0_hasProject) := goodIn_app (goodIn_of _ (by decide +kernel)) ggX4_share_X0_hasProject
set_option maxRecDepth 20000 in
theorem ggX4_share_X0_shareOf : GoodIn wsX4_share wsX0_shareOf := goodIn_r _ [14, 10, 15, 16, 17, 18, 8, 19, 20, 21, 22, 23, 24, 25, 26, 27, 28, 29, 30, 31, 32, 33, 34, 39, 40, 41, 42, 43, 44, 45, 46, 47, 48, 49, 50] (by decide +kernel) (by decide +kernel)
set_option maxRecDepth 20000 in
theorem gX4_share_X0_shareOf : GoodIn wsX4_share (wsV RX4 146 RX0 yX0_shareOf wsX0_shareOf) := goodIn_app (goodIn_of _ (by decide +kernel)) ggX4_share_X0_shareOf
theorem dX4_share_0 : decode cX4_share 0 = .ok (.aload_n 0, 1) := by decide +kernel
theorem dX4_share_1 : decode cX4_share 1 = .ok (.getfield 37, 3) := by decide +kernel
theorem dX4_share_4 : decode cX4_share 4 = .ok (.iload_n 1, 1) := by decide +kernel
theorem dX4_share_5 : decode cX4_share 5 = .ok (.invokevirtual 123, 3) := by decide +kernel
theorem dX4_share_8 : decode cX4_share 8 = .ok (.ifCond .ne 7, 3) := by decide +kernel
theorem dX4_share_11 : decode cX4_share 11 = .ok (.ldc2_w 133, 3) := by decide +kernel
theorem dX4_share_14 : decode cX4_share 14 = .ok (.lreturn, 1) := by decide +kernel
theorem dX4_share_15 : decode cX4_share 15 = .ok (.lload_n 2, 1) := by decide +kernel
theorem dX4_share_16 : decode cX4_share 16 = .ok (.lconst 0, 1) := by decide +kernel
theorem dX4_share_17 : decode cX4_share 17 = .ok (.lcmp, 1) := by decide +kernel
theorem dX4_share_18 : decode cX4_share 18 = .ok (.ifCond .lt 11, 3) := by decide +kernel
theorem dX4_share_21 : decode cX4_share 21 = .ok (.lload_n 2, 1) := by decide +kernel
theorem dX4_share_22 : decode cX4_share 22 = .ok (.ldc2_w 144, 3) := by decide +kernel
theorem dX4_share_25 : decode cX4_share 25 = .ok (.lcmp, 1) := by decide +kernel
theorem dX4_share_26 : decode cX4_share 26 = .ok (.ifCond .le 7, 3) := by decide +kernel
theorem dX4_share_29 : decode cX4_share 29 = .ok (.ldc2_w 135, 3) := by decide +kernel
theorem dX4_share_32 : decode cX4_share 32 = .ok (.lreturn, 1) := by decide +kernel
theorem dX4_share_33 : decode cX4_share 33 = .ok (.aload_n 0, 1) := by decide +kernel
theorem dX4_share_34 : decode cX4_share 34 = .ok (.getfield 37, 3) := by decide +kernel
theorem dX4_share_37 : decode cX4_share 37 = .ok (.iload_n 1, 1) := by decide +kernel
theorem dX4_share_38 : decode cX4_share 38 = .ok (.lload_n 2, 1) := by decide +kernel
theorem dX4_share_39 : decode cX4_share 39 = .ok (.invokevirtual 146, 3) := by decide +kernel
theorem dX4_share_42 : decode cX4_share 42 = .ok (.lreturn, 1) := by decide +kernel
set_option maxRecDepth 20000 in
theorem ggX4_damped_X0_hasProject : GoodIn wsX4_damped wsX0_hasProject := goodIn_r _ [7, 8, 37, 38, 39, 40, 41] (by decide +kernel) (by decide +kernel)
set_option maxRecDepth 20000 in
theorem gX4_damped_X0_hasProject : GoodIn wsX4_damped (wsV RX4 123 RX0 yX0_hasProject wsX0_hasProject) := goodIn_app (goodIn_of _ (by decide +kernel)) ggX4_damped_X0_hasProject
set_option maxRecDepth 20000 in
theorem ggX4_damped_X0_matchedUndamped : GoodIn wsX4_damped wsX0_matchedUndamped := goodIn_r _ [12, 13, 14, 15, 16, 17, 18, 19, 20, 6, 21, 22, 23, 24, 25, 26, 27, 37, 38, 39, 40, 41, 42, 43, 44, 45, 46, 47, 48] (by decide +kernel) (by decide +kernel)
set_option maxRecDepth 20000 in
theorem gX4_damped_X0_matchedUndamped : GoodIn wsX4_damped (wsV RX4 150 RX0 yX0_matchedUndamped wsX0_matchedUndamped) := goodIn_app (goodIn_of _ (by decide +kernel)) ggX4_damped_X0_matchedUndamped
set_option maxRecDepth 20000 in
theorem ggX4_damped_X0_matchedLow : GoodIn wsX4_damped wsX0_matchedLow := goodIn_r _ [31, 13, 14, 32, 16, 17, 18, 19, 20, 6, 21, 22, 23, 24, 25, 26, 27, 37, 38, 39, 40, 41, 42, 43, 44, 45, 46, 47, 48] (by decide +kernel) (by decide +kernel)
set_option maxRecDepth 20000 in
theorem gX4_damped_X0_matchedLow : GoodIn wsX4_damped (wsV RX4 137 RX0 yX0_matchedLow wsX0_matchedLow) := goodIn_app (goodIn_of _ (by decide +kernel)) ggX4_damped_X0_matchedLow
theorem dX4_damped_0 : decode cX4_damped 0 = .ok (.aload_n 0, 1) := by decide +kernel
theorem dX4_damped_1 : decode cX4_damped 1 = .ok (.getfield 37, 3) := by decide +kernel
theorem dX4_damped_4 : decode cX4_damped 4 = .ok (.iload_n 1, 1) := by decide +kernel
theorem dX4_damped_5 : decode cX4_damped 5 = .ok (.invokevirtual 123, 3) := by decide +kernel
theorem dX4_damped_8 : decode cX4_damped 8 = .ok (.ifCond .ne 7, 3) := by decide +kernel
theorem dX4_damped_11 : decode cX4_damped 11 = .ok (.ldc2_w 133, 3) := by decide +kernel
theorem dX4_damped_14 : decode cX4_damped 14 = .ok (.lreturn, 1) := by decide +kernel
theorem dX4_damped_15 : decode cX4_damped 15 = .ok (.aload_n 0, 1) := by decide +kernel
theorem dX4_damped_16 : decode cX4_damped 16 = .ok (.getfield 37, 3) := by decide +kernel
theorem dX4_damped_19 : decode cX4_damped 19 = .ok (.iload_n 1, 1) := by decide +kernel
theorem dX4_damped_20 : decode cX4_damped 20 = .ok (.invokevirtual 150, 3) := by decide +kernel
theorem dX4_damped_23 : decode cX4_damped 23 = .ok (.aload_n 0, 1) := by decide +kernel
theorem dX4_damped_24 : decode cX4_damped 24 = .ok (.getfield 37, 3) := by decide +kernel
theorem dX4_damped_27 : decode cX4_damped 27 = .ok (.iload_n 1, 1) := by decide +kernel
theorem dX4_damped_28 : decode cX4_damped 28 = .ok (.invokevirtual 137, 3) := by decide +kernel
theorem dX4_damped_31 : decode cX4_damped 31 = .ok (.lsub, 1) := by decide +kernel
theorem dX4_damped_32 : decode cX4_damped 32 = .ok (.lreturn, 1) := by decide +kernel
set_option maxRecDepth 20000 in
theorem ggX4_likeness_X1_hasPerson : GoodIn wsX4_likeness wsX1_hasPerson := goodIn_r _ [6, 7, 23, 24, 25, 26, 27, 28, 29] (by decide +kernel) (by decide +kernel)
set_option maxRecDepth 20000 in
theorem gX4_likeness_X1_hasPerson : GoodIn wsX4_likeness (wsV RX4 62 RX1 yX1_hasPerson wsX1_hasPerson) := goodIn_app (goodIn_of _ (by decide +kernel)) ggX4_likeness_X1_hasPerson
set_option maxRecDepth 20000 in
theorem ggX4_likeness_X1_likenessOf : GoodIn wsX4_likeness wsX1_likenessOf := goodIn_r _ [11, 12, 13, 14, 15, 16, 17, 5, 18, 23, 24, 25, 26, 27, 28, 29] (by decide +kernel) (by decide +kernel)
set_option maxRecDepth 20000 in
theorem gX4_likeness_X1_likenessOf : GoodIn wsX4_likeness (wsV RX4 153 RX1 yX1_likenessOf wsX1_likenessOf) := goodIn_app (goodIn_of _ (by decide +kernel)) ggX4_likeness_X1_likenessOf
theorem dX4_likeness_0 : decode cX4_likeness 0 = .ok (.aload_n 0, 1) := by decide +kernel
theorem dX4_likeness_1 : decode cX4_likeness 1 = .ok (.getfield 10, 3) := by decide +kernel
theorem dX4_likeness_4 : decode cX4_likeness 4 = .ok (.iload_n 1, 1) := by decide +kernel
theorem dX4_likeness_5 : decode cX4_likeness 5 = .ok (.invokevirtual 62, 3) := by decide +kernel
theorem dX4_likeness_8 : decode cX4_likeness 8 = .ok (.ifCond .eq 14, 3) := by decide +kernel
theorem dX4_likeness_11 : decode cX4_likeness 11 = .ok (.aload_n 0, 1) := by decide +kernel
theorem dX4_likeness_12 : decode cX4_likeness 12 = .ok (.getfield 10, 3) := by decide +kernel
theorem dX4_likeness_15 : decode cX4_likeness 15 = .ok (.iload_n 2, 1) := by decide +kernel
theorem dX4_likeness_16 : decode cX4_likeness 16 = .ok (.invokevirtual 62, 3) := by decide +kernel
theorem dX4_likeness_19 : decode cX4_likeness 19 = .ok (.ifCond .ne 7, 3) := by decide +kernel
theorem dX4_likeness_22 : decode cX4_likeness 22 = .ok (.sipush (-2001), 3) := by decide +kernel
theorem dX4_likeness_25 : decode cX4_likeness 25 = .ok (.ireturn, 1) := by decide +kernel
theorem dX4_likeness_26 : decode cX4_likeness 26 = .ok (.aload_n 0, 1) := by decide +kernel
theorem dX4_likeness_27 : decode cX4_likeness 27 = .ok (.getfield 10, 3) := by decide +kernel
theorem dX4_likeness_30 : decode cX4_likeness 30 = .ok (.iload_n 1, 1) := by decide +kernel
theorem dX4_likeness_31 : decode cX4_likeness 31 = .ok (.iload_n 2, 1) := by decide +kernel
theorem dX4_likeness_32 : decode cX4_likeness 32 = .ok (.invokevirtual 153, 3) := by decide +kernel
theorem dX4_likeness_35 : decode cX4_likeness 35 = .ok (.ireturn, 1) := by decide +kernel
set_option maxRecDepth 20000 in
theorem ggX4_group_X1_hasPerson : GoodIn wsX4_group wsX1_hasPerson := goodIn_r _ [6, 7, 35, 36, 37, 38, 39, 40, 41] (by decide +kernel) (by decide +kernel)
set_option maxRecDepth 20000 in
theorem gX4_group_X1_hasPerson : GoodIn wsX4_group (wsV RX4 62 RX1 yX1_hasPerson wsX1_hasPerson) := goodIn_app (goodIn_of _ (by decide +kernel)) ggX4_group_X1_hasPerson
set_option maxRecDepth 20000 in
theorem ggX4_group_X4_isWithin : GoodIn wsX4_group wsX4_isWithin := goodIn_r _ [11] (by decide +kernel) (by decide +kernel)
set_option maxRecDepth 20000 in
theorem gX4_group_X4_isWithin : GoodIn wsX4_group (va_wsS RX4 41 yX4_isWithin wsX4_isWithin) := goodIn_app (goodIn_of _ (by decide +kernel)) ggX4_group_X4_isWithin
set_option maxRecDepth 20000 in
theorem ggX4_group_X1_groupOf : GoodIn wsX4_group wsX1_groupOf := goodIn_r _ [15, 7, 16, 17, 18, 5, 19, 20, 21, 22, 23, 24, 25, 26, 27, 28, 29, 30, 35, 36, 37, 38, 39, 40, 41] (by decide +kernel) (by decide +kernel)
set_option maxRecDepth 20000 in
theorem gX4_group_X1_groupOf : GoodIn wsX4_group (wsV RX4 156 RX1 yX1_groupOf wsX1_groupOf) := goodIn_app (goodIn_of _ (by decide +kernel)) ggX4_group_X1_groupOf
theorem dX4_group_0 : decode cX4_group 0 = .ok (.aload_n 0, 1) := by decide +kernel
theorem dX4_group_1 : decode cX4_group 1 = .ok (.getfield 10, 3) := by decide +kernel
theorem dX4_group_4 : decode cX4_group 4 = .ok (.iload_n 1, 1) := by decide +kernel
theorem dX4_group_5 : decode cX4_group 5 = .ok (.invokevirtual 62, 3) := by decide +kernel
theorem dX4_group_8 : decode cX4_group 8 = .ok (.ifCond .ne 6, 3) := by decide +kernel
theorem dX4_group_11 : decode cX4_group 11 = .ok (.bipush (-101), 2) := by decide +kernel
theorem dX4_group_13 : decode cX4_group 13 = .ok (.ireturn, 1) := by decide +kernel
theorem dX4_group_14 : decode cX4_group 14 = .ok (.iload_n 2, 1) := by decide +kernel
theorem dX4_group_15 : decode cX4_group 15 = .ok (.iconst 1, 1) := by decide +kernel
theorem dX4_group_16 : decode cX4_group 16 = .ok (.sipush 1000, 3) := by decide +kernel
theorem dX4_group_19 : decode cX4_group 19 = .ok (.invokestatic 41, 3) := by decide +kernel
theorem dX4_group_22 : decode cX4_group 22 = .ok (.ifCond .ne 6, 3) := by decide +kernel
theorem dX4_group_25 : decode cX4_group 25 = .ok (.bipush (-102), 2) := by decide +kernel
theorem dX4_group_27 : decode cX4_group 27 = .ok (.ireturn, 1) := by decide +kernel
theorem dX4_group_28 : decode cX4_group 28 = .ok (.aload_n 0, 1) := by decide +kernel
theorem dX4_group_29 : decode cX4_group 29 = .ok (.getfield 10, 3) := by decide +kernel
theorem dX4_group_32 : decode cX4_group 32 = .ok (.iload_n 1, 1) := by decide +kernel
theorem dX4_group_33 : decode cX4_group 33 = .ok (.iload_n 2, 1) := by decide +kernel
theorem dX4_group_34 : decode cX4_group 34 = .ok (.invokevirtual 156, 3) := by decide +kernel
theorem dX4_group_37 : decode cX4_group 37 = .ok (.ireturn, 1) := by decide +kernel
set_option maxRecDepth 20000 in
theorem ggX4_count_X1_peoplePresent : GoodIn wsX4_count wsX1_peoplePresent := goodIn_r _ [13, 14, 15, 20, 21, 22, 23, 24, 25, 26] (by decide +kernel) (by decide +kernel)
set_option maxRecDepth 20000 in
theorem gX4_count_X1_peoplePresent : GoodIn wsX4_count (wsV RX4 159 RX1 yX1_peoplePresent wsX1_peoplePresent) := goodIn_app (goodIn_of _ (by decide +kernel)) ggX4_count_X1_peoplePresent
theorem dX4_count_0 : decode cX4_count 0 = .ok (.iload_n 1, 1) := by decide +kernel
theorem dX4_count_1 : decode cX4_count 1 = .ok (.tableswitch 87 0 5 #[39, 47, 55, 63, 71, 79], 39) := by decide +kernel
theorem dX4_count_40 : decode cX4_count 40 = .ok (.aload_n 0, 1) := by decide +kernel
theorem dX4_count_41 : decode cX4_count 41 = .ok (.getfield 10, 3) := by decide +kernel
theorem dX4_count_44 : decode cX4_count 44 = .ok (.getfield 45, 3) := by decide +kernel
theorem dX4_count_47 : decode cX4_count 47 = .ok (.ireturn, 1) := by decide +kernel
theorem dX4_count_48 : decode cX4_count 48 = .ok (.aload_n 0, 1) := by decide +kernel
theorem dX4_count_49 : decode cX4_count 49 = .ok (.getfield 10, 3) := by decide +kernel
theorem dX4_count_52 : decode cX4_count 52 = .ok (.getfield 53, 3) := by decide +kernel
theorem dX4_count_55 : decode cX4_count 55 = .ok (.ireturn, 1) := by decide +kernel
theorem dX4_count_56 : decode cX4_count 56 = .ok (.aload_n 0, 1) := by decide +kernel
theorem dX4_count_57 : decode cX4_count 57 = .ok (.getfield 37, 3) := by decide +kernel
theorem dX4_count_60 : decode cX4_count 60 = .ok (.getfield 56, 3) := by decide +kernel
theorem dX4_count_63 : decode cX4_count 63 = .ok (.ireturn, 1) := by decide +kernel
theorem dX4_count_64 : decode cX4_count 64 = .ok (.aload_n 0, 1) := by decide +kernel
theorem dX4_count_65 : decode cX4_count 65 = .ok (.getfield 10, 3) := by decide +kernel
theorem dX4_count_68 : decode cX4_count 68 = .ok (.invokevirtual 159, 3) := by decide +kernel
theorem dX4_count_71 : decode cX4_count 71 = .ok (.ireturn, 1) := by decide +kernel
theorem dX4_count_72 : decode cX4_count 72 = .ok (.aload_n 0, 1) := by decide +kernel
theorem dX4_count_73 : decode cX4_count 73 = .ok (.getfield 30, 3) := by decide +kernel
theorem dX4_count_76 : decode cX4_count 76 = .ok (.getfield 163, 3) := by decide +kernel
theorem dX4_count_79 : decode cX4_count 79 = .ok (.ireturn, 1) := by decide +kernel
theorem dX4_count_80 : decode cX4_count 80 = .ok (.aload_n 0, 1) := by decide +kernel
theorem dX4_count_81 : decode cX4_count 81 = .ok (.getfield 30, 3) := by decide +kernel
theorem dX4_count_84 : decode cX4_count 84 = .ok (.getfield 166, 3) := by decide +kernel
theorem dX4_count_87 : decode cX4_count 87 = .ok (.ireturn, 1) := by decide +kernel
theorem dX4_count_88 : decode cX4_count 88 = .ok (.bipush (-102), 2) := by decide +kernel
theorem dX4_count_90 : decode cX4_count 90 = .ok (.ireturn, 1) := by decide +kernel
set_option maxRecDepth 20000 in
theorem ggX4_digest_X1_digestPerson : GoodIn wsX4_digest wsX1_digestPerson := goodIn_r _ [14, 15, 16, 17, 18, 19, 20, 34, 35, 36, 37, 38, 39, 40] (by decide +kernel) (by decide +kernel)
set_option maxRecDepth 20000 in
theorem gX4_digest_X1_digestPerson : GoodIn wsX4_digest (wsV RX4 171 RX1 yX1_digestPerson wsX1_digestPerson) := goodIn_app (goodIn_of _ (by decide +kernel)) ggX4_digest_X1_digestPerson
set_option maxRecDepth 20000 in
theorem ggX4_digest_X0_digestPerson : GoodIn wsX4_digest wsX0_digestPerson := goodIn_r _ [25, 26, 27, 28, 29, 48, 49, 50, 51, 52] (by decide +kernel) (by decide +kernel)
set_option maxRecDepth 20000 in
theorem gX4_digest_X0_digestPerson : GoodIn wsX4_digest (wsV RX4 175 RX0 yX0_digestPerson wsX0_digestPerson) := goodIn_app (goodIn_of _ (by decide +kernel)) ggX4_digest_X0_digestPerson
theorem dX4_digest_0 : decode cX4_digest 0 = .ok (.ldc2_w 169, 3) := by decide +kernel
theorem dX4_digest_3 : decode cX4_digest 3 = .ok (.lstore_n 1, 1) := by decide +kernel
theorem dX4_digest_4 : decode cX4_digest 4 = .ok (.iconst 0, 1) := by decide +kernel
theorem dX4_digest_5 : decode cX4_digest 5 = .ok (.istore_n 3, 1) := by decide +kernel
theorem dX4_digest_6 : decode cX4_digest 6 = .ok (.iload_n 3, 1) := by decide +kernel
theorem dX4_digest_7 : decode cX4_digest 7 = .ok (.aload_n 0, 1) := by decide +kernel
theorem dX4_digest_8 : decode cX4_digest 8 = .ok (.getfield 10, 3) := by decide +kernel
theorem dX4_digest_11 : decode cX4_digest 11 = .ok (.getfield 45, 3) := by decide +kernel
theorem dX4_digest_14 : decode cX4_digest 14 = .ok (.if_icmp .ge 29, 3) := by decide +kernel
theorem dX4_digest_17 : decode cX4_digest 17 = .ok (.aload_n 0, 1) := by decide +kernel
theorem dX4_digest_18 : decode cX4_digest 18 = .ok (.getfield 10, 3) := by decide +kernel
theorem dX4_digest_21 : decode cX4_digest 21 = .ok (.lload_n 1, 1) := by decide +kernel
theorem dX4_digest_22 : decode cX4_digest 22 = .ok (.iload_n 3, 1) := by decide +kernel
theorem dX4_digest_23 : decode cX4_digest 23 = .ok (.invokevirtual 171, 3) := by decide +kernel
theorem dX4_digest_26 : decode cX4_digest 26 = .ok (.lstore_n 1, 1) := by decide +kernel
theorem dX4_digest_27 : decode cX4_digest 27 = .ok (.aload_n 0, 1) := by decide +kernel
theorem dX4_digest_28 : decode cX4_digest 28 = .ok (.getfield 37, 3) := by decide +kernel
theorem dX4_digest_31 : decode cX4_digest 31 = .ok (.lload_n 1, 1) := by decide +kernel
theorem dX4_digest_32 : decode cX4_digest 32 = .ok (.iload_n 3, 1) := by decide +kernel
theorem dX4_digest_33 : decode cX4_digest 33 = .ok (.invokevirtual 175, 3) := by decide +kernel
theorem dX4_digest_36 : decode cX4_digest 36 = .ok (.lstore_n 1, 1) := by decide +kernel
theorem dX4_digest_37 : decode cX4_digest 37 = .ok (.iinc 3 1, 3) := by decide +kernel
theorem dX4_digest_40 : decode cX4_digest 40 = .ok (.goto (-34), 3) := by decide +kernel
theorem dX4_digest_43 : decode cX4_digest 43 = .ok (.ldc2_w 176, 3) := by decide +kernel
theorem dX4_digest_46 : decode cX4_digest 46 = .ok (.lload_n 1, 1) := by decide +kernel
theorem dX4_digest_47 : decode cX4_digest 47 = .ok (.lmul, 1) := by decide +kernel
theorem dX4_digest_48 : decode cX4_digest 48 = .ok (.aload_n 0, 1) := by decide +kernel
theorem dX4_digest_49 : decode cX4_digest 49 = .ok (.getfield 10, 3) := by decide +kernel
theorem dX4_digest_52 : decode cX4_digest 52 = .ok (.getfield 59, 3) := by decide +kernel
theorem dX4_digest_55 : decode cX4_digest 55 = .ok (.i2l, 1) := by decide +kernel
theorem dX4_digest_56 : decode cX4_digest 56 = .ok (.ladd, 1) := by decide +kernel
theorem dX4_digest_57 : decode cX4_digest 57 = .ok (.lstore_n 1, 1) := by decide +kernel
theorem dX4_digest_58 : decode cX4_digest 58 = .ok (.ldc2_w 176, 3) := by decide +kernel
theorem dX4_digest_61 : decode cX4_digest 61 = .ok (.lload_n 1, 1) := by decide +kernel
theorem dX4_digest_62 : decode cX4_digest 62 = .ok (.lmul, 1) := by decide +kernel
theorem dX4_digest_63 : decode cX4_digest 63 = .ok (.aload_n 0, 1) := by decide +kernel
theorem dX4_digest_64 : decode cX4_digest 64 = .ok (.getfield 30, 3) := by decide +kernel
theorem dX4_digest_67 : decode cX4_digest 67 = .ok (.getfield 163, 3) := by decide +kernel
theorem dX4_digest_70 : decode cX4_digest 70 = .ok (.i2l, 1) := by decide +kernel
theorem dX4_digest_71 : decode cX4_digest 71 = .ok (.ladd, 1) := by decide +kernel
theorem dX4_digest_72 : decode cX4_digest 72 = .ok (.lstore_n 1, 1) := by decide +kernel
theorem dX4_digest_73 : decode cX4_digest 73 = .ok (.ldc2_w 176, 3) := by decide +kernel
theorem dX4_digest_76 : decode cX4_digest 76 = .ok (.lload_n 1, 1) := by decide +kernel
theorem dX4_digest_77 : decode cX4_digest 77 = .ok (.lmul, 1) := by decide +kernel
theorem dX4_digest_78 : decode cX4_digest 78 = .ok (.aload_n 0, 1) := by decide +kernel
theorem dX4_digest_79 : decode cX4_digest 79 = .ok (.getfield 30, 3) := by decide +kernel
theorem dX4_digest_82 : decode cX4_digest 82 = .ok (.getfield 166, 3) := by decide +kernel
theorem dX4_digest_85 : decode cX4_digest 85 = .ok (.i2l, 1) := by decide +kernel
theorem dX4_digest_86 : decode cX4_digest 86 = .ok (.ladd, 1) := by decide +kernel
theorem dX4_digest_87 : decode cX4_digest 87 = .ok (.lreturn, 1) := by decide +kernel
theorem dX4_isWithin_0 : decode cX4_isWithin 0 = .ok (.iload_n 0, 1) := by decide +kernel
theorem dX4_isWithin_1 : decode cX4_isWithin 1 = .ok (.iload_n 1, 1) := by decide +kernel
theorem dX4_isWithin_2 : decode cX4_isWithin 2 = .ok (.if_icmp .lt 12, 3) := by decide +kernel
theorem dX4_isWithin_5 : decode cX4_isWithin 5 = .ok (.iload_n 0, 1) := by decide +kernel
theorem dX4_isWithin_6 : decode cX4_isWithin 6 = .ok (.iload_n 2, 1) := by decide +kernel
theorem dX4_isWithin_7 : decode cX4_isWithin 7 = .ok (.if_icmp .gt 7, 3) := by decide +kernel
theorem dX4_isWithin_10 : decode cX4_isWithin 10 = .ok (.iconst 1, 1) := by decide +kernel
theorem dX4_isWithin_11 : decode cX4_isWithin 11 = .ok (.goto 4, 3) := by decide +kernel
theorem dX4_isWithin_14 : decode cX4_isWithin 14 = .ok (.iconst 0, 1) := by decide +kernel
theorem dX4_isWithin_15 : decode cX4_isWithin 15 = .ok (.ireturn, 1) := by decide +kernel
theorem dX5_init_0 : decode cX5_init 0 = .ok (.aload_n 0, 1) := by decide +kernel
theorem dX5_init_1 : decode cX5_init 1 = .ok (.invokespecial 1, 3) := by decide +kernel
theorem dX5_init_4 : decode cX5_init 4 = .ok (.aload_n 0, 1) := by decide +kernel
theorem dX5_init_5 : decode cX5_init 5 = .ok (.bipush 12, 2) := by decide +kernel
theorem dX5_init_7 : decode cX5_init 7 = .ok (.newarray .int, 2) := by decide +kernel
theorem dX5_init_9 : decode cX5_init 9 = .ok (.putfield 7, 3) := by decide +kernel
theorem dX5_init_12 : decode cX5_init 12 = .ok (.aload_n 0, 1) := by decide +kernel
theorem dX5_init_13 : decode cX5_init 13 = .ok (.bipush 12, 2) := by decide +kernel
theorem dX5_init_15 : decode cX5_init 15 = .ok (.newarray .boolean, 2) := by decide +kernel
theorem dX5_init_17 : decode cX5_init 17 = .ok (.putfield 13, 3) := by decide +kernel
theorem dX5_init_20 : decode cX5_init 20 = .ok (.aload_n 0, 1) := by decide +kernel
theorem dX5_init_21 : decode cX5_init 21 = .ok (.bipush 72, 2) := by decide +kernel
theorem dX5_init_23 : decode cX5_init 23 = .ok (.newarray .int, 2) := by decide +kernel
theorem dX5_init_25 : decode cX5_init 25 = .ok (.putfield 17, 3) := by decide +kernel
theorem dX5_init_28 : decode cX5_init 28 = .ok (.aload_n 0, 1) := by decide +kernel
theorem dX5_init_29 : decode cX5_init 29 = .ok (.bipush 72, 2) := by decide +kernel
theorem dX5_init_31 : decode cX5_init 31 = .ok (.newarray .int, 2) := by decide +kernel
theorem dX5_init_33 : decode cX5_init 33 = .ok (.putfield 20, 3) := by decide +kernel
theorem dX5_init_36 : decode cX5_init 36 = .ok (.aload_n 0, 1) := by decide +kernel
theorem dX5_init_37 : decode cX5_init 37 = .ok (.bipush 72, 2) := by decide +kernel
theorem dX5_init_39 : decode cX5_init 39 = .ok (.newarray .int, 2) := by decide +kernel
theorem dX5_init_41 : decode cX5_init 41 = .ok (.putfield 23, 3) := by decide +kernel
theorem dX5_init_44 : decode cX5_init 44 = .ok (.aload_n 0, 1) := by decide +kernel
theorem dX5_init_45 : decode cX5_init 45 = .ok (.sipush 144, 3) := by decide +kernel
theorem dX5_init_48 : decode cX5_init 48 = .ok (.newarray .int, 2) := by decide +kernel
theorem dX5_init_50 : decode cX5_init 50 = .ok (.putfield 26, 3) := by decide +kernel
theorem dX5_init_53 : decode cX5_init 53 = .ok (.aload_n 0, 1) := by decide +kernel
theorem dX5_init_54 : decode cX5_init 54 = .ok (.bipush 18, 2) := by decide +kernel
theorem dX5_init_56 : decode cX5_init 56 = .ok (.newarray .int, 2) := by decide +kernel
theorem dX5_init_58 : decode cX5_init 58 = .ok (.putfield 29, 3) := by decide +kernel
theorem dX5_init_61 : decode cX5_init 61 = .ok (.aload_n 0, 1) := by decide +kernel
theorem dX5_init_62 : decode cX5_init 62 = .ok (.bipush 18, 2) := by decide +kernel
theorem dX5_init_64 : decode cX5_init 64 = .ok (.newarray .boolean, 2) := by decide +kernel
theorem dX5_init_66 : decode cX5_init 66 = .ok (.putfield 32, 3) := by decide +kernel
theorem dX5_init_69 : decode cX5_init 69 = .ok (.aload_n 0, 1) := by decide +kernel
theorem dX5_init_70 : decode cX5_init 70 = .ok (.bipush 6, 2) := by decide +kernel
theorem dX5_init_72 : decode cX5_init 72 = .ok (.newarray .int, 2) := by decide +kernel
theorem dX5_init_74 : decode cX5_init 74 = .ok (.putfield 35, 3) := by decide +kernel
theorem dX5_init_77 : decode cX5_init 77 = .ok (.aload_n 0, 1) := by decide +kernel
theorem dX5_init_78 : decode cX5_init 78 = .ok (.bipush 6, 2) := by decide +kernel
theorem dX5_init_80 : decode cX5_init 80 = .ok (.newarray .int, 2) := by decide +kernel
theorem dX5_init_82 : decode cX5_init 82 = .ok (.putfield 38, 3) := by decide +kernel
theorem dX5_init_85 : decode cX5_init 85 = .ok (.aload_n 0, 1) := by decide +kernel
theorem dX5_init_86 : decode cX5_init 86 = .ok (.sipush 2232, 3) := by decide +kernel
theorem dX5_init_89 : decode cX5_init 89 = .ok (.newarray .int, 2) := by decide +kernel
theorem dX5_init_91 : decode cX5_init 91 = .ok (.putfield 41, 3) := by decide +kernel
theorem dX5_init_94 : decode cX5_init 94 = .ok (.aload_n 0, 1) := by decide +kernel
theorem dX5_init_95 : decode cX5_init 95 = .ok (.bipush 6, 2) := by decide +kernel
theorem dX5_init_97 : decode cX5_init 97 = .ok (.newarray .long, 2) := by decide +kernel
theorem dX5_init_99 : decode cX5_init 99 = .ok (.putfield 44, 3) := by decide +kernel
theorem dX5_init_102 : decode cX5_init 102 = .ok (.aload_n 0, 1) := by decide +kernel
theorem dX5_init_103 : decode cX5_init 103 = .ok (.bipush 6, 2) := by decide +kernel
theorem dX5_init_105 : decode cX5_init 105 = .ok (.newarray .long, 2) := by decide +kernel
theorem dX5_init_107 : decode cX5_init 107 = .ok (.putfield 48, 3) := by decide +kernel
theorem dX5_init_110 : decode cX5_init 110 = .ok (.iconst 0, 1) := by decide +kernel
theorem dX5_init_111 : decode cX5_init 111 = .ok (.istore_n 1, 1) := by decide +kernel
theorem dX5_init_112 : decode cX5_init 112 = .ok (.iload_n 1, 1) := by decide +kernel
theorem dX5_init_113 : decode cX5_init 113 = .ok (.sipush 144, 3) := by decide +kernel
theorem dX5_init_116 : decode cX5_init 116 = .ok (.if_icmp .ge 18, 3) := by decide +kernel
theorem dX5_init_119 : decode cX5_init 119 = .ok (.aload_n 0, 1) := by decide +kernel
theorem dX5_init_120 : decode cX5_init 120 = .ok (.getfield 26, 3) := by decide +kernel
theorem dX5_init_123 : decode cX5_init 123 = .ok (.iload_n 1, 1) := by decide +kernel
theorem dX5_init_124 : decode cX5_init 124 = .ok (.sipush 1000, 3) := by decide +kernel
theorem dX5_init_127 : decode cX5_init 127 = .ok (.iastore, 1) := by decide +kernel
theorem dX5_init_128 : decode cX5_init 128 = .ok (.iinc 1 1, 3) := by decide +kernel
theorem dX5_init_131 : decode cX5_init 131 = .ok (.goto (-19), 3) := by decide +kernel
theorem dX5_init_134 : decode cX5_init 134 = .ok (.return_, 1) := by decide +kernel
theorem dX5_in_0 : decode cX5_in 0 = .ok (.iload_n 0, 1) := by decide +kernel
theorem dX5_in_1 : decode cX5_in 1 = .ok (.iload_n 1, 1) := by decide +kernel
theorem dX5_in_2 : decode cX5_in 2 = .ok (.if_icmp .lt 12, 3) := by decide +kernel
theorem dX5_in_5 : decode cX5_in 5 = .ok (.iload_n 0, 1) := by decide +kernel
theorem dX5_in_6 : decode cX5_in 6 = .ok (.iload_n 2, 1) := by decide +kernel
theorem dX5_in_7 : decode cX5_in 7 = .ok (.if_icmp .gt 7, 3) := by decide +kernel
theorem dX5_in_10 : decode cX5_in 10 = .ok (.iconst 1, 1) := by decide +kernel
theorem dX5_in_11 : decode cX5_in 11 = .ok (.goto 4, 3) := by decide +kernel
theorem dX5_in_14 : decode cX5_in 14 = .ok (.iconst 0, 1) := by decide +kernel
theorem dX5_in_15 : decode cX5_in 15 = .ok (.ireturn, 1) := by decide +kernel
set_option maxRecDepth 20000 in
theorem ggX5_isPerson_X5_in : GoodIn wsX5_isPerson wsX5_in := goodIn_r _ [5] (by decide +kernel) (by decide +kernel)
set_option maxRecDepth 20000 in
theorem gX5_isPerson_X5_in : GoodIn wsX5_isPerson (va_wsS RX5 55 yX5_in wsX5_in) := goodIn_app (goodIn_of _ (by decide +kernel)) ggX5_isPerson_X5_in
theorem dX5_isPerson_0 : decode cX5_isPerson 0 = .ok (.iload_n 1, 1) := by decide +kernel
theorem dX5_isPerson_1 : decode cX5_isPerson 1 = .ok (.iconst 0, 1) := by decide +kernel
theorem dX5_isPerson_2 : decode cX5_isPerson 2 = .ok (.aload_n 0, 1) := by decide +kernel
theorem dX5_isPerson_3 : decode cX5_isPerson 3 = .ok (.getfield 51, 3) := by decide +kernel
theorem dX5_isPerson_6 : decode cX5_isPerson 6 = .ok (.iconst 1, 1) := by decide +kernel
theorem dX5_isPerson_7 : decode cX5_isPerson 7 = .ok (.isub, 1) := by decide +kernel
theorem dX5_isPerson_8 : decode cX5_isPerson 8 = .ok (.invokestatic 55, 3) := by decide +kernel
theorem dX5_isPerson_11 : decode cX5_isPerson 11 = .ok (.ireturn, 1) := by decide +kernel
set_option maxRecDepth 20000 in
theorem ggX5_isQuestion_X5_in : GoodIn wsX5_isQuestion wsX5_in := goodIn_r _ [5] (by decide +kernel) (by decide +kernel)
set_option maxRecDepth 20000 in
theorem gX5_isQuestion_X5_in : GoodIn wsX5_isQuestion (va_wsS RX5 55 yX5_in wsX5_in) := goodIn_app (goodIn_of _ (by decide +kernel)) ggX5_isQuestion_X5_in
theorem dX5_isQuestion_0 : decode cX5_isQuestion 0 = .ok (.iload_n 1, 1) := by decide +kernel
theorem dX5_isQuestion_1 : decode cX5_isQuestion 1 = .ok (.iconst 0, 1) := by decide +kernel
theorem dX5_isQuestion_2 : decode cX5_isQuestion 2 = .ok (.aload_n 0, 1) := by decide +kernel
theorem dX5_isQuestion_3 : decode cX5_isQuestion 3 = .ok (.getfield 59, 3) := by decide +kernel
theorem dX5_isQuestion_6 : decode cX5_isQuestion 6 = .ok (.iconst 1, 1) := by decide +kernel
theorem dX5_isQuestion_7 : decode cX5_isQuestion 7 = .ok (.isub, 1) := by decide +kernel
theorem dX5_isQuestion_8 : decode cX5_isQuestion 8 = .ok (.invokestatic 55, 3) := by decide +kernel
theorem dX5_isQuestion_11 : decode cX5_isQuestion 11 = .ok (.ireturn, 1) := by decide +kernel
set_option maxRecDepth 20000 in
theorem ggX5_isProject_X5_in : GoodIn wsX5_isProject wsX5_in := goodIn_r _ [5] (by decide +kernel) (by decide +kernel)
set_option maxRecDepth 20000 in
theorem gX5_isProject_X5_in : GoodIn wsX5_isProject (va_wsS RX5 55 yX5_in wsX5_in) := goodIn_app (goodIn_of _ (by decide +kernel)) ggX5_isProject_X5_in
theorem dX5_isProject_0 : decode cX5_isProject 0 = .ok (.iload_n 1, 1) := by decide +kernel
theorem dX5_isProject_1 : decode cX5_isProject 1 = .ok (.iconst 0, 1) := by decide +kernel
theorem dX5_isProject_2 : decode cX5_isProject 2 = .ok (.aload_n 0, 1) := by decide +kernel
theorem dX5_isProject_3 : decode cX5_isProject 3 = .ok (.getfield 62, 3) := by decide +kernel
theorem dX5_isProject_6 : decode cX5_isProject 6 = .ok (.iconst 1, 1) := by decide +kernel
theorem dX5_isProject_7 : decode cX5_isProject 7 = .ok (.isub, 1) := by decide +kernel
theorem dX5_isProject_8 : decode cX5_isProject 8 = .ok (.invokestatic 55, 3) := by decide +kernel
theorem dX5_isProject_11 : decode cX5_isProject 11 = .ok (.ireturn, 1) := by decide +kernel
set_option maxRecDepth 20000 in
theorem ggX5_person_X5_in : GoodIn wsX5_person wsX5_in := goodIn_r _ [7] (by decide +kernel) (by decide +kernel)
set_option maxRecDepth 20000 in
theorem gX5_person_X5_in : GoodIn wsX5_person (va_wsS RX5 55 yX5_in wsX5_in) := goodIn_app (goodIn_of _ (by decide +kernel)) ggX5_person_X5_in
theorem dX5_person_0 : decode cX5_person 0 = .ok (.iload_n 1, 1) := by decide +kernel
theorem dX5_person_1 : decode cX5_person 1 = .ok (.iconst 0, 1) := by decide +kernel
theorem dX5_person_2 : decode cX5_person 2 = .ok (.sipush 2000, 3) := by decide +kernel
theorem dX5_person_5 : decode cX5_person 5 = .ok (.invokestatic 55, 3) := by decide +kernel
theorem dX5_person_8 : decode cX5_person 8 = .ok (.ifCond .ne 6, 3) := by decide +kernel
theorem dX5_person_11 : decode cX5_person 11 = .ok (.bipush (-102), 2) := by decide +kernel
theorem dX5_person_13 : decode cX5_person 13 = .ok (.ireturn, 1) := by decide +kernel
theorem dX5_person_14 : decode cX5_person 14 = .ok (.aload_n 0, 1) := by decide +kernel
theorem dX5_person_15 : decode cX5_person 15 = .ok (.getfield 51, 3) := by decide +kernel
theorem dX5_person_18 : decode cX5_person 18 = .ok (.bipush 12, 2) := by decide +kernel
theorem dX5_person_20 : decode cX5_person 20 = .ok (.if_icmp .ne 6, 3) := by decide +kernel
theorem dX5_person_23 : decode cX5_person 23 = .ok (.bipush (-104), 2) := by decide +kernel
theorem dX5_person_25 : decode cX5_person 25 = .ok (.ireturn, 1) := by decide +kernel
theorem dX5_person_26 : decode cX5_person 26 = .ok (.aload_n 0, 1) := by decide +kernel
theorem dX5_person_27 : decode cX5_person 27 = .ok (.getfield 7, 3) := by decide +kernel
theorem dX5_person_30 : decode cX5_person 30 = .ok (.aload_n 0, 1) := by decide +kernel
theorem dX5_person_31 : decode cX5_person 31 = .ok (.getfield 51, 3) := by decide +kernel
theorem dX5_person_34 : decode cX5_person 34 = .ok (.iload_n 1, 1) := by decide +kernel
theorem dX5_person_35 : decode cX5_person 35 = .ok (.iastore, 1) := by decide +kernel
theorem dX5_person_36 : decode cX5_person 36 = .ok (.aload_n 0, 1) := by decide +kernel
theorem dX5_person_37 : decode cX5_person 37 = .ok (.getfield 13, 3) := by decide +kernel
theorem dX5_person_40 : decode cX5_person 40 = .ok (.aload_n 0, 1) := by decide +kernel
theorem dX5_person_41 : decode cX5_person 41 = .ok (.getfield 51, 3) := by decide +kernel
theorem dX5_person_44 : decode cX5_person 44 = .ok (.iconst 1, 1) := by decide +kernel
theorem dX5_person_45 : decode cX5_person 45 = .ok (.bastore, 1) := by decide +kernel
theorem dX5_person_46 : decode cX5_person 46 = .ok (.aload_n 0, 1) := by decide +kernel
theorem dX5_person_47 : decode cX5_person 47 = .ok (.dup, 1) := by decide +kernel
theorem dX5_person_48 : decode cX5_person 48 = .ok (.getfield 51, 3) := by decide +kernel
theorem dX5_person_51 : decode cX5_person 51 = .ok (.iconst 1, 1) := by decide +kernel
theorem dX5_person_52 : decode cX5_person 52 = .ok (.iadd, 1) := by decide +kernel
theorem dX5_person_53 : decode cX5_person 53 = .ok (.putfield 51, 3) := by decide +kernel
theorem dX5_person_56 : decode cX5_person 56 = .ok (.aload_n 0, 1) := by decide +kernel
theorem dX5_person_57 : decode cX5_person 57 = .ok (.getfield 51, 3) := by decide +kernel
theorem dX5_person_60 : decode cX5_person 60 = .ok (.iconst 1, 1) := by decide +kernel
theorem dX5_person_61 : decode cX5_person 61 = .ok (.isub, 1) := by decide +kernel
theorem dX5_person_62 : decode cX5_person 62 = .ok (.ireturn, 1) := by decide +kernel
theorem dX5_question_0 : decode cX5_question 0 = .ok (.aload_n 0, 1) := by decide +kernel
theorem dX5_question_1 : decode cX5_question 1 = .ok (.getfield 59, 3) := by decide +kernel
theorem dX5_question_4 : decode cX5_question 4 = .ok (.bipush 6, 2) := by decide +kernel
theorem dX5_question_6 : decode cX5_question 6 = .ok (.if_icmp .ne 6, 3) := by decide +kernel
theorem dX5_question_9 : decode cX5_question 9 = .ok (.bipush (-104), 2) := by decide +kernel
theorem dX5_question_11 : decode cX5_question 11 = .ok (.ireturn, 1) := by decide +kernel
theorem dX5_question_12 : decode cX5_question 12 = .ok (.aload_n 0, 1) := by decide +kernel
theorem dX5_question_13 : decode cX5_question 13 = .ok (.dup, 1) := by decide +kernel
theorem dX5_question_14 : decode cX5_question 14 = .ok (.getfield 59, 3) := by decide +kernel
theorem dX5_question_17 : decode cX5_question 17 = .ok (.iconst 1, 1) := by decide +kernel
theorem dX5_question_18 : decode cX5_question 18 = .ok (.iadd, 1) := by decide +kernel
theorem dX5_question_19 : decode cX5_question 19 = .ok (.putfield 59, 3) := by decide +kernel
theorem dX5_question_22 : decode cX5_question 22 = .ok (.aload_n 0, 1) := by decide +kernel
theorem dX5_question_23 : decode cX5_question 23 = .ok (.getfield 59, 3) := by decide +kernel
theorem dX5_question_26 : decode cX5_question 26 = .ok (.iconst 1, 1) := by decide +kernel
theorem dX5_question_27 : decode cX5_question 27 = .ok (.isub, 1) := by decide +kernel
theorem dX5_question_28 : decode cX5_question 28 = .ok (.ireturn, 1) := by decide +kernel
theorem dX5_project_0 : decode cX5_project 0 = .ok (.aload_n 0, 1) := by decide +kernel
theorem dX5_project_1 : decode cX5_project 1 = .ok (.getfield 62, 3) := by decide +kernel
theorem dX5_project_4 : decode cX5_project 4 = .ok (.bipush 6, 2) := by decide +kernel
theorem dX5_project_6 : decode cX5_project 6 = .ok (.if_icmp .ne 6, 3) := by decide +kernel
theorem dX5_project_9 : decode cX5_project 9 = .ok (.bipush (-104), 2) := by decide +kernel
theorem dX5_project_11 : decode cX5_project 11 = .ok (.ireturn, 1) := by decide +kernel
theorem dX5_project_12 : decode cX5_project 12 = .ok (.aload_n 0, 1) := by decide +kernel
theorem dX5_project_13 : decode cX5_project 13 = .ok (.dup, 1) := by decide +kernel
theorem dX5_project_14 : decode cX5_project 14 = .ok (.getfield 62, 3) := by decide +kernel
theorem dX5_project_17 : decode cX5_project 17 = .ok (.iconst 1, 1) := by decide +kernel
theorem dX5_project_18 : decode cX5_project 18 = .ok (.iadd, 1) := by decide +kernel
theorem dX5_project_19 : decode cX5_project 19 = .ok (.putfield 62, 3) := by decide +kernel
theorem dX5_project_22 : decode cX5_project 22 = .ok (.aload_n 0, 1) := by decide +kernel
theorem dX5_project_23 : decode cX5_project 23 = .ok (.getfield 62, 3) := by decide +kernel
theorem dX5_project_26 : decode cX5_project 26 = .ok (.iconst 1, 1) := by decide +kernel
theorem dX5_project_27 : decode cX5_project 27 = .ok (.isub, 1) := by decide +kernel
theorem dX5_project_28 : decode cX5_project 28 = .ok (.ireturn, 1) := by decide +kernel
theorem dX5_seed_0 : decode cX5_seed 0 = .ok (.aload_n 0, 1) := by decide +kernel
theorem dX5_seed_1 : decode cX5_seed 1 = .ok (.getfield 65, 3) := by decide +kernel
theorem dX5_seed_4 : decode cX5_seed 4 = .ok (.istore_n 2, 1) := by decide +kernel
theorem dX5_seed_5 : decode cX5_seed 5 = .ok (.aload_n 0, 1) := by decide +kernel
theorem dX5_seed_6 : decode cX5_seed 6 = .ok (.iload_n 1, 1) := by decide +kernel
theorem dX5_seed_7 : decode cX5_seed 7 = .ok (.putfield 65, 3) := by decide +kernel
theorem dX5_seed_10 : decode cX5_seed 10 = .ok (.iload_n 2, 1) := by decide +kernel
theorem dX5_seed_11 : decode cX5_seed 11 = .ok (.ireturn, 1) := by decide +kernel
theorem dX5_costOf_0 : decode cX5_costOf 0 = .ok (.iconst 0, 1) := by decide +kernel
theorem dX5_costOf_1 : decode cX5_costOf 1 = .ok (.istore_n 2, 1) := by decide +kernel
theorem dX5_costOf_2 : decode cX5_costOf 2 = .ok (.iconst 0, 1) := by decide +kernel
theorem dX5_costOf_3 : decode cX5_costOf 3 = .ok (.istore_n 3, 1) := by decide +kernel
theorem dX5_costOf_4 : decode cX5_costOf 4 = .ok (.iload_n 3, 1) := by decide +kernel
theorem dX5_costOf_5 : decode cX5_costOf 5 = .ok (.aload_n 0, 1) := by decide +kernel
theorem dX5_costOf_6 : decode cX5_costOf 6 = .ok (.getfield 59, 3) := by decide +kernel
theorem dX5_costOf_9 : decode cX5_costOf 9 = .ok (.if_icmp .ge 35, 3) := by decide +kernel
theorem dX5_costOf_12 : decode cX5_costOf 12 = .ok (.iload_n 2, 1) := by decide +kernel
theorem dX5_costOf_13 : decode cX5_costOf 13 = .ok (.aload_n 0, 1) := by decide +kernel
theorem dX5_costOf_14 : decode cX5_costOf 14 = .ok (.getfield 17, 3) := by decide +kernel
theorem dX5_costOf_17 : decode cX5_costOf 17 = .ok (.bipush 6, 2) := by decide +kernel
theorem dX5_costOf_19 : decode cX5_costOf 19 = .ok (.iload_n 1, 1) := by decide +kernel
theorem dX5_costOf_20 : decode cX5_costOf 20 = .ok (.imul, 1) := by decide +kernel
theorem dX5_costOf_21 : decode cX5_costOf 21 = .ok (.iload_n 3, 1) := by decide +kernel
theorem dX5_costOf_22 : decode cX5_costOf 22 = .ok (.iadd, 1) := by decide +kernel
theorem dX5_costOf_23 : decode cX5_costOf 23 = .ok (.iaload, 1) := by decide +kernel
theorem dX5_costOf_24 : decode cX5_costOf 24 = .ok (.aload_n 0, 1) := by decide +kernel
theorem dX5_costOf_25 : decode cX5_costOf 25 = .ok (.getfield 17, 3) := by decide +kernel
theorem dX5_costOf_28 : decode cX5_costOf 28 = .ok (.bipush 6, 2) := by decide +kernel
theorem dX5_costOf_30 : decode cX5_costOf 30 = .ok (.iload_n 1, 1) := by decide +kernel
theorem dX5_costOf_31 : decode cX5_costOf 31 = .ok (.imul, 1) := by decide +kernel
theorem dX5_costOf_32 : decode cX5_costOf 32 = .ok (.iload_n 3, 1) := by decide +kernel
theorem dX5_costOf_33 : decode cX5_costOf 33 = .ok (.iadd, 1) := by decide +kernel
theorem dX5_costOf_34 : decode cX5_costOf 34 = .ok (.iaload, 1) := by decide +kernel
theorem dX5_costOf_35 : decode cX5_costOf 35 = .ok (.imul, 1) := by decide +kernel
theorem dX5_costOf_36 : decode cX5_costOf 36 = .ok (.iadd, 1) := by decide +kernel
theorem dX5_costOf_37 : decode cX5_costOf 37 = .ok (.istore_n 2, 1) := by decide +kernel
theorem dX5_costOf_38 : decode cX5_costOf 38 = .ok (.iinc 3 1, 3) := by decide +kernel
theorem dX5_costOf_41 : decode cX5_costOf 41 = .ok (.goto (-37), 3) := by decide +kernel
theorem dX5_costOf_44 : decode cX5_costOf 44 = .ok (.iload_n 2, 1) := by decide +kernel
theorem dX5_costOf_45 : decode cX5_costOf 45 = .ok (.ireturn, 1) := by decide +kernel
set_option maxRecDepth 20000 in
theorem ggX5_vote_X5_isPerson : GoodIn wsX5_vote wsX5_isPerson := goodIn_r _ [7, 8, 9, 10, 6, 11, 21, 22, 23, 24, 25, 26, 27, 28, 29, 30, 31, 32, 33, 34, 35, 36, 37, 38, 39, 40, 41, 42, 43, 44, 45] (by decide +kernel) (by decide +kernel)
set_option maxRecDepth 20000 in
theorem gX5_vote_X5_isPerson : GoodIn wsX5_vote (wsV RX5 68 RX5 yX5_isPerson wsX5_isPerson) := goodIn_app (goodIn_of _ (by decide +kernel)) ggX5_vote_X5_isPerson
set_option maxRecDepth 20000 in
theorem ggX5_vote_X5_isQuestion : GoodIn wsX5_vote wsX5_isQuestion := goodIn_r _ [15, 16, 9, 10, 6, 11, 21, 22, 23, 24, 25, 26, 27, 28, 29, 30, 31, 32, 33, 34, 35, 36, 37, 38, 39, 40, 41, 42, 43, 44, 45] (by decide +kernel) (by decide +kernel)
set_option maxRecDepth 20000 in
theorem gX5_vote_X5_isQuestion : GoodIn wsX5_vote (wsV RX5 72 RX5 yX5_isQuestion wsX5_isQuestion) := goodIn_app (goodIn_of _ (by decide +kernel)) ggX5_vote_X5_isQuestion
set_option maxRecDepth 20000 in
theorem ggX5_vote_X5_in : GoodIn wsX5_vote wsX5_in := goodIn_r _ [11] (by decide +kernel) (by decide +kernel)
set_option maxRecDepth 20000 in
theorem gX5_vote_X5_in : GoodIn wsX5_vote (va_wsS RX5 55 yX5_in wsX5_in) := goodIn_app (goodIn_of _ (by decide +kernel)) ggX5_vote_X5_in
set_option maxRecDepth 20000 in
theorem ggX5_vote_X5_costOf : GoodIn wsX5_vote wsX5_costOf := goodIn_r _ [20, 16, 1, 21, 22, 23, 24, 25, 26, 27, 28, 29, 30, 31, 32, 33, 34, 35, 36, 37, 38, 39, 40, 41, 42, 43, 44, 45] (by decide +kernel) (by decide +kernel)
set_option maxRecDepth 20000 in
theorem gX5_vote_X5_costOf : GoodIn wsX5_vote (wsV RX5 75 RX5 yX5_costOf wsX5_costOf) := goodIn_app (goodIn_of _ (by decide +kernel)) ggX5_vote_X5_costOf
theorem dX5_vote_0 : decode cX5_vote 0 = .ok (.aload_n 0, 1) := by decide +kernel
theorem dX5_vote_1 : decode cX5_vote 1 = .ok (.iload_n 1, 1) := by decide +kernel
theorem dX5_vote_2 : decode cX5_vote 2 = .ok (.invokevirtual 68, 3) := by decide +kernel
theorem dX5_vote_5 : decode cX5_vote 5 = .ok (.ifCond .eq 11, 3) := by decide +kernel
theorem dX5_vote_8 : decode cX5_vote 8 = .ok (.aload_n 0, 1) := by decide +kernel
theorem dX5_vote_9 : decode cX5_vote 9 = .ok (.iload_n 2, 1) := by decide +kernel
theorem dX5_vote_10 : decode cX5_vote 10 = .ok (.invokevirtual 72, 3) := by decide +kernel
theorem dX5_vote_13 : decode cX5_vote 13 = .ok (.ifCond .ne 6, 3) := by decide +kernel
theorem dX5_vote_16 : decode cX5_vote 16 = .ok (.bipush (-101), 2) := by decide +kernel
theorem dX5_vote_18 : decode cX5_vote 18 = .ok (.ireturn, 1) := by decide +kernel
theorem dX5_vote_19 : decode cX5_vote 19 = .ok (.iload_n 3, 1) := by decide +kernel
theorem dX5_vote_20 : decode cX5_vote 20 = .ok (.bipush (-40), 2) := by decide +kernel
theorem dX5_vote_22 : decode cX5_vote 22 = .ok (.bipush 40, 2) := by decide +kernel
theorem dX5_vote_24 : decode cX5_vote 24 = .ok (.invokestatic 55, 3) := by decide +kernel
theorem dX5_vote_27 : decode cX5_vote 27 = .ok (.ifCond .ne 6, 3) := by decide +kernel
theorem dX5_vote_30 : decode cX5_vote 30 = .ok (.bipush (-102), 2) := by decide +kernel
theorem dX5_vote_32 : decode cX5_vote 32 = .ok (.ireturn, 1) := by decide +kernel
theorem dX5_vote_33 : decode cX5_vote 33 = .ok (.aload_n 0, 1) := by decide +kernel
theorem dX5_vote_34 : decode cX5_vote 34 = .ok (.getfield 17, 3) := by decide +kernel
theorem dX5_vote_37 : decode cX5_vote 37 = .ok (.bipush 6, 2) := by decide +kernel
theorem dX5_vote_39 : decode cX5_vote 39 = .ok (.iload_n 1, 1) := by decide +kernel
theorem dX5_vote_40 : decode cX5_vote 40 = .ok (.imul, 1) := by decide +kernel
theorem dX5_vote_41 : decode cX5_vote 41 = .ok (.iload_n 2, 1) := by decide +kernel
theorem dX5_vote_42 : decode cX5_vote 42 = .ok (.iadd, 1) := by decide +kernel
theorem dX5_vote_43 : decode cX5_vote 43 = .ok (.iaload, 1) := by decide +kernel
theorem dX5_vote_44 : decode cX5_vote 44 = .ok (.istore 4, 2) := by decide +kernel
theorem dX5_vote_46 : decode cX5_vote 46 = .ok (.aload_n 0, 1) := by decide +kernel
theorem dX5_vote_47 : decode cX5_vote 47 = .ok (.iload_n 1, 1) := by decide +kernel
theorem dX5_vote_48 : decode cX5_vote 48 = .ok (.invokevirtual 75, 3) := by decide +kernel
theorem dX5_vote_51 : decode cX5_vote 51 = .ok (.iload 4, 2) := by decide +kernel
theorem dX5_vote_53 : decode cX5_vote 53 = .ok (.iload 4, 2) := by decide +kernel
theorem dX5_vote_55 : decode cX5_vote 55 = .ok (.imul, 1) := by decide +kernel
theorem dX5_vote_56 : decode cX5_vote 56 = .ok (.isub, 1) := by decide +kernel
theorem dX5_vote_57 : decode cX5_vote 57 = .ok (.iload_n 3, 1) := by decide +kernel
theorem dX5_vote_58 : decode cX5_vote 58 = .ok (.iload_n 3, 1) := by decide +kernel
theorem dX5_vote_59 : decode cX5_vote 59 = .ok (.imul, 1) := by decide +kernel
theorem dX5_vote_60 : decode cX5_vote 60 = .ok (.iadd, 1) := by decide +kernel
theorem dX5_vote_61 : decode cX5_vote 61 = .ok (.istore 5, 2) := by decide +kernel
theorem dX5_vote_63 : decode cX5_vote 63 = .ok (.iload 5, 2) := by decide +kernel
theorem dX5_vote_65 : decode cX5_vote 65 = .ok (.aload_n 0, 1) := by decide +kernel
theorem dX5_vote_66 : decode cX5_vote 66 = .ok (.getfield 7, 3) := by decide +kernel
theorem dX5_vote_69 : decode cX5_vote 69 = .ok (.iload_n 1, 1) := by decide +kernel
theorem dX5_vote_70 : decode cX5_vote 70 = .ok (.iaload, 1) := by decide +kernel
theorem dX5_vote_71 : decode cX5_vote 71 = .ok (.if_icmp .le 6, 3) := by decide +kernel
theorem dX5_vote_74 : decode cX5_vote 74 = .ok (.bipush (-103), 2) := by decide +kernel
theorem dX5_vote_76 : decode cX5_vote 76 = .ok (.ireturn, 1) := by decide +kernel
theorem dX5_vote_77 : decode cX5_vote 77 = .ok (.aload_n 0, 1) := by decide +kernel
theorem dX5_vote_78 : decode cX5_vote 78 = .ok (.getfield 17, 3) := by decide +kernel
theorem dX5_vote_81 : decode cX5_vote 81 = .ok (.bipush 6, 2) := by decide +kernel
theorem dX5_vote_83 : decode cX5_vote 83 = .ok (.iload_n 1, 1) := by decide +kernel
theorem dX5_vote_84 : decode cX5_vote 84 = .ok (.imul, 1) := by decide +kernel
theorem dX5_vote_85 : decode cX5_vote 85 = .ok (.iload_n 2, 1) := by decide +kernel
theorem dX5_vote_86 : decode cX5_vote 86 = .ok (.iadd, 1) := by decide +kernel
theorem dX5_vote_87 : decode cX5_vote 87 = .ok (.iload_n 3, 1) := by decide +kernel
theorem dX5_vote_88 : decode cX5_vote 88 = .ok (.iastore, 1) := by decide +kernel
theorem dX5_vote_89 : decode cX5_vote 89 = .ok (.iload 5, 2) := by decide +kernel
theorem dX5_vote_91 : decode cX5_vote 91 = .ok (.ireturn, 1) := by decide +kernel
set_option maxRecDepth 20000 in
theorem ggX5_worth_X5_isPerson : GoodIn wsX5_worth wsX5_isPerson := goodIn_r _ [6, 7, 8, 9, 5, 10, 16, 17, 18, 19, 20, 21, 22, 23, 24, 25, 26, 27, 28, 29, 30, 31, 32, 33, 34, 35, 36, 37, 38, 39, 40] (by decide +kernel) (by decide +kernel)
set_option maxRecDepth 20000 in
theorem gX5_worth_X5_isPerson : GoodIn wsX5_worth (wsV RX5 68 RX5 yX5_isPerson wsX5_isPerson) := goodIn_app (goodIn_of _ (by decide +kernel)) ggX5_worth_X5_isPerson
set_option maxRecDepth 20000 in
theorem ggX5_worth_X5_isQuestion : GoodIn wsX5_worth wsX5_isQuestion := goodIn_r _ [14, 15, 8, 9, 5, 10, 16, 17, 18, 19, 20, 21, 22, 23, 24, 25, 26, 27, 28, 29, 30, 31, 32, 33, 34, 35, 36, 37, 38, 39, 40] (by decide +kernel) (by decide +kernel)
set_option maxRecDepth 20000 in
theorem gX5_worth_X5_isQuestion : GoodIn wsX5_worth (wsV RX5 72 RX5 yX5_isQuestion wsX5_isQuestion) := goodIn_app (goodIn_of _ (by decide +kernel)) ggX5_worth_X5_isQuestion
set_option maxRecDepth 20000 in
theorem ggX5_worth_X5_in : GoodIn wsX5_worth wsX5_in := goodIn_r _ [10] (by decide +kernel) (by decide +kernel)
set_option maxRecDepth 20000 in
theorem gX5_worth_X5_in : GoodIn wsX5_worth (va_wsS RX5 55 yX5_in wsX5_in) := goodIn_app (goodIn_of _ (by decide +kernel)) ggX5_worth_X5_in
theorem dX5_worth_0 : decode cX5_worth 0 = .ok (.aload_n 0, 1) := by decide +kernel
theorem dX5_worth_1 : decode cX5_worth 1 = .ok (.iload_n 1, 1) := by decide +kernel
theorem dX5_worth_2 : decode cX5_worth 2 = .ok (.invokevirtual 68, 3) := by decide +kernel
theorem dX5_worth_5 : decode cX5_worth 5 = .ok (.ifCond .eq 11, 3) := by decide +kernel
theorem dX5_worth_8 : decode cX5_worth 8 = .ok (.aload_n 0, 1) := by decide +kernel
theorem dX5_worth_9 : decode cX5_worth 9 = .ok (.iload_n 2, 1) := by decide +kernel
theorem dX5_worth_10 : decode cX5_worth 10 = .ok (.invokevirtual 72, 3) := by decide +kernel
theorem dX5_worth_13 : decode cX5_worth 13 = .ok (.ifCond .ne 6, 3) := by decide +kernel
theorem dX5_worth_16 : decode cX5_worth 16 = .ok (.bipush (-101), 2) := by decide +kernel
theorem dX5_worth_18 : decode cX5_worth 18 = .ok (.ireturn, 1) := by decide +kernel
theorem dX5_worth_19 : decode cX5_worth 19 = .ok (.iload_n 3, 1) := by decide +kernel
theorem dX5_worth_20 : decode cX5_worth 20 = .ok (.sipush (-1000), 3) := by decide +kernel
theorem dX5_worth_23 : decode cX5_worth 23 = .ok (.sipush 1000, 3) := by decide +kernel
theorem dX5_worth_26 : decode cX5_worth 26 = .ok (.invokestatic 55, 3) := by decide +kernel
theorem dX5_worth_29 : decode cX5_worth 29 = .ok (.ifCond .ne 6, 3) := by decide +kernel
theorem dX5_worth_32 : decode cX5_worth 32 = .ok (.bipush (-102), 2) := by decide +kernel
theorem dX5_worth_34 : decode cX5_worth 34 = .ok (.ireturn, 1) := by decide +kernel
theorem dX5_worth_35 : decode cX5_worth 35 = .ok (.aload_n 0, 1) := by decide +kernel
theorem dX5_worth_36 : decode cX5_worth 36 = .ok (.getfield 20, 3) := by decide +kernel
theorem dX5_worth_39 : decode cX5_worth 39 = .ok (.bipush 6, 2) := by decide +kernel
theorem dX5_worth_41 : decode cX5_worth 41 = .ok (.iload_n 1, 1) := by decide +kernel
theorem dX5_worth_42 : decode cX5_worth 42 = .ok (.imul, 1) := by decide +kernel
theorem dX5_worth_43 : decode cX5_worth 43 = .ok (.iload_n 2, 1) := by decide +kernel
theorem dX5_worth_44 : decode cX5_worth 44 = .ok (.iadd, 1) := by decide +kernel
theorem dX5_worth_45 : decode cX5_worth 45 = .ok (.iaload, 1) := by decide +kernel
theorem dX5_worth_46 : decode cX5_worth 46 = .ok (.istore 4, 2) := by decide +kernel
theorem dX5_worth_48 : decode cX5_worth 48 = .ok (.aload_n 0, 1) := by decide +kernel
theorem dX5_worth_49 : decode cX5_worth 49 = .ok (.getfield 20, 3) := by decide +kernel
theorem dX5_worth_52 : decode cX5_worth 52 = .ok (.bipush 6, 2) := by decide +kernel
theorem dX5_worth_54 : decode cX5_worth 54 = .ok (.iload_n 1, 1) := by decide +kernel
theorem dX5_worth_55 : decode cX5_worth 55 = .ok (.imul, 1) := by decide +kernel
theorem dX5_worth_56 : decode cX5_worth 56 = .ok (.iload_n 2, 1) := by decide +kernel
theorem dX5_worth_57 : decode cX5_worth 57 = .ok (.iadd, 1) := by decide +kernel
theorem dX5_worth_58 : decode cX5_worth 58 = .ok (.iload_n 3, 1) := by decide +kernel
theorem dX5_worth_59 : decode cX5_worth 59 = .ok (.iastore, 1) := by decide +kernel
theorem dX5_worth_60 : decode cX5_worth 60 = .ok (.iload 4, 2) := by decide +kernel
theorem dX5_worth_62 : decode cX5_worth 62 = .ok (.ireturn, 1) := by decide +kernel
set_option maxRecDepth 20000 in
theorem ggX5_here_X5_isPerson : GoodIn wsX5_here wsX5_isPerson := goodIn_r _ [6, 7, 8, 9, 5, 10, 11, 12, 13, 14, 15, 16, 17, 18, 19, 20, 21, 22, 23, 24, 25, 26, 27, 28, 29, 30, 31, 32, 33, 34, 35] (by decide +kernel) (by decide +kernel)
set_option maxRecDepth 20000 in
theorem gX5_here_X5_isPerson : GoodIn wsX5_here (wsV RX5 68 RX5 yX5_isPerson wsX5_isPerson) := goodIn_app (goodIn_of _ (by decide +kernel)) ggX5_here_X5_isPerson
theorem dX5_here_0 : decode cX5_here 0 = .ok (.aload_n 0, 1) := by decide +kernel
theorem dX5_here_1 : decode cX5_here 1 = .ok (.iload_n 1, 1) := by decide +kernel
theorem dX5_here_2 : decode cX5_here 2 = .ok (.invokevirtual 68, 3) := by decide +kernel
theorem dX5_here_5 : decode cX5_here 5 = .ok (.ifCond .ne 6, 3) := by decide +kernel
theorem dX5_here_8 : decode cX5_here 8 = .ok (.bipush (-101), 2) := by decide +kernel
theorem dX5_here_10 : decode cX5_here 10 = .ok (.ireturn, 1) := by decide +kernel
theorem dX5_here_11 : decode cX5_here 11 = .ok (.aload_n 0, 1) := by decide +kernel
theorem dX5_here_12 : decode cX5_here 12 = .ok (.getfield 13, 3) := by decide +kernel
theorem dX5_here_15 : decode cX5_here 15 = .ok (.iload_n 1, 1) := by decide +kernel
theorem dX5_here_16 : decode cX5_here 16 = .ok (.baload, 1) := by decide +kernel
theorem dX5_here_17 : decode cX5_here 17 = .ok (.ifCond .eq 7, 3) := by decide +kernel
theorem dX5_here_20 : decode cX5_here 20 = .ok (.iconst 1, 1) := by decide +kernel
theorem dX5_here_21 : decode cX5_here 21 = .ok (.goto 4, 3) := by decide +kernel
theorem dX5_here_24 : decode cX5_here 24 = .ok (.iconst 0, 1) := by decide +kernel
theorem dX5_here_25 : decode cX5_here 25 = .ok (.istore_n 3, 1) := by decide +kernel
theorem dX5_here_26 : decode cX5_here 26 = .ok (.aload_n 0, 1) := by decide +kernel
theorem dX5_here_27 : decode cX5_here 27 = .ok (.getfield 13, 3) := by decide +kernel
theorem dX5_here_30 : decode cX5_here 30 = .ok (.iload_n 1, 1) := by decide +kernel
theorem dX5_here_31 : decode cX5_here 31 = .ok (.iload_n 2, 1) := by decide +kernel
theorem dX5_here_32 : decode cX5_here 32 = .ok (.bastore, 1) := by decide +kernel
theorem dX5_here_33 : decode cX5_here 33 = .ok (.iload_n 3, 1) := by decide +kernel
theorem dX5_here_34 : decode cX5_here 34 = .ok (.ireturn, 1) := by decide +kernel
set_option maxRecDepth 20000 in
theorem ggX5_voices_X5_isPerson : GoodIn wsX5_voices wsX5_isPerson := goodIn_r _ [6, 7, 8, 9, 5, 10, 16, 17, 18, 19, 20, 21, 22, 23, 24, 25, 26, 27, 28, 29, 30, 31, 32, 33, 34, 35, 36, 37, 38, 39, 40] (by decide +kernel) (by decide +kernel)
set_option maxRecDepth 20000 in
theorem gX5_voices_X5_isPerson : GoodIn wsX5_voices (wsV RX5 68 RX5 yX5_isPerson wsX5_isPerson) := goodIn_app (goodIn_of _ (by decide +kernel)) ggX5_voices_X5_isPerson
set_option maxRecDepth 20000 in
theorem ggX5_voices_X5_isQuestion : GoodIn wsX5_voices wsX5_isQuestion := goodIn_r _ [14, 15, 8, 9, 5, 10, 16, 17, 18, 19, 20, 21, 22, 23, 24, 25, 26, 27, 28, 29, 30, 31, 32, 33, 34, 35, 36, 37, 38, 39, 40] (by decide +kernel) (by decide +kernel)
set_option maxRecDepth 20000 in
theorem gX5_voices_X5_isQuestion : GoodIn wsX5_voices (wsV RX5 72 RX5 yX5_isQuestion wsX5_isQuestion) := goodIn_app (goodIn_of _ (by decide +kernel)) ggX5_voices_X5_isQuestion
theorem dX5_voices_0 : decode cX5_voices 0 = .ok (.aload_n 0, 1) := by decide +kernel
theorem dX5_voices_1 : decode cX5_voices 1 = .ok (.iload_n 1, 1) := by decide +kernel
theorem dX5_voices_2 : decode cX5_voices 2 = .ok (.invokevirtual 68, 3) := by decide +kernel
theorem dX5_voices_5 : decode cX5_voices 5 = .ok (.ifCond .eq 25, 3) := by decide +kernel
theorem dX5_voices_8 : decode cX5_voices 8 = .ok (.aload_n 0, 1) := by decide +kernel
theorem dX5_voices_9 : decode cX5_voices 9 = .ok (.iload_n 2, 1) := by decide +kernel
theorem dX5_voices_10 : decode cX5_voices 10 = .ok (.invokevirtual 72, 3) := by decide +kernel
theorem dX5_voices_13 : decode cX5_voices 13 = .ok (.ifCond .eq 17, 3) := by decide +kernel
theorem dX5_voices_16 : decode cX5_voices 16 = .ok (.aload_n 0, 1) := by decide +kernel
theorem dX5_voices_17 : decode cX5_voices 17 = .ok (.getfield 17, 3) := by decide +kernel
theorem dX5_voices_20 : decode cX5_voices 20 = .ok (.bipush 6, 2) := by decide +kernel
theorem dX5_voices_22 : decode cX5_voices 22 = .ok (.iload_n 1, 1) := by decide +kernel
theorem dX5_voices_23 : decode cX5_voices 23 = .ok (.imul, 1) := by decide +kernel
theorem dX5_voices_24 : decode cX5_voices 24 = .ok (.iload_n 2, 1) := by decide +kernel
theorem dX5_voices_25 : decode cX5_voices 25 = .ok (.iadd, 1) := by decide +kernel
theorem dX5_voices_26 : decode cX5_voices 26 = .ok (.iaload, 1) := by decide +kernel
theorem dX5_voices_27 : decode cX5_voices 27 = .ok (.goto 6, 3) := by decide +kernel
theorem dX5_voices_30 : decode cX5_voices 30 = .ok (.sipush (-2000), 3) := by decide +kernel
theorem dX5_voices_33 : decode cX5_voices 33 = .ok (.ireturn, 1) := by decide +kernel
set_option maxRecDepth 20000 in
theorem ggX5_cost_X5_isPerson : GoodIn wsX5_cost wsX5_isPerson := goodIn_r _ [5, 6, 7, 8, 4, 9, 16, 17, 18, 19, 20, 21, 22, 23, 24, 25, 26, 27, 28, 29, 30, 31, 32, 33, 34, 35, 36, 37, 38, 39, 40] (by decide +kernel) (by decide +kernel)
set_option maxRecDepth 20000 in
theorem gX5_cost_X5_isPerson : GoodIn wsX5_cost (wsV RX5 68 RX5 yX5_isPerson wsX5_isPerson) := goodIn_app (goodIn_of _ (by decide +kernel)) ggX5_cost_X5_isPerson
set_option maxRecDepth 20000 in
theorem ggX5_cost_X5_costOf : GoodIn wsX5_cost wsX5_costOf := goodIn_r _ [13, 14, 15, 16, 17, 18, 19, 20, 21, 22, 23, 24, 25, 26, 27, 28, 29, 30, 31, 32, 33, 34, 35, 36, 37, 38, 39, 40] (by decide +kernel) (by decide +kernel)
set_option maxRecDepth 20000 in
theorem gX5_cost_X5_costOf : GoodIn wsX5_cost (wsV RX5 75 RX5 yX5_costOf wsX5_costOf) := goodIn_app (goodIn_of _ (by decide +kernel)) ggX5_cost_X5_costOf
theorem dX5_cost_0 : decode cX5_cost 0 = .ok (.aload_n 0, 1) := by decide +kernel
theorem dX5_cost_1 : decode cX5_cost 1 = .ok (.iload_n 1, 1) := by decide +kernel
theorem dX5_cost_2 : decode cX5_cost 2 = .ok (.invokevirtual 68, 3) := by decide +kernel
theorem dX5_cost_5 : decode cX5_cost 5 = .ok (.ifCond .eq 11, 3) := by decide +kernel
theorem dX5_cost_8 : decode cX5_cost 8 = .ok (.aload_n 0, 1) := by decide +kernel
theorem dX5_cost_9 : decode cX5_cost 9 = .ok (.iload_n 1, 1) := by decide +kernel
theorem dX5_cost_10 : decode cX5_cost 10 = .ok (.invokevirtual 75, 3) := by decide +kernel
theorem dX5_cost_13 : decode cX5_cost 13 = .ok (.goto 5, 3) := by decide +kernel
theorem dX5_cost_16 : decode cX5_cost 16 = .ok (.bipush (-101), 2) := by decide +kernel
theorem dX5_cost_18 : decode cX5_cost 18 = .ok (.ireturn, 1) := by decide +kernel
theorem dX5_others_0 : decode cX5_others 0 = .ok (.iconst 0, 1) := by decide +kernel
theorem dX5_others_1 : decode cX5_others 1 = .ok (.istore_n 3, 1) := by decide +kernel
theorem dX5_others_2 : decode cX5_others 2 = .ok (.iconst 0, 1) := by decide +kernel
theorem dX5_others_3 : decode cX5_others 3 = .ok (.istore 4, 2) := by decide +kernel
theorem dX5_others_5 : decode cX5_others 5 = .ok (.iload 4, 2) := by decide +kernel
theorem dX5_others_7 : decode cX5_others 7 = .ok (.aload_n 0, 1) := by decide +kernel
theorem dX5_others_8 : decode cX5_others 8 = .ok (.getfield 51, 3) := by decide +kernel
theorem dX5_others_11 : decode cX5_others 11 = .ok (.if_icmp .ge 44, 3) := by decide +kernel
theorem dX5_others_14 : decode cX5_others 14 = .ok (.iload_n 3, 1) := by decide +kernel
theorem dX5_others_15 : decode cX5_others 15 = .ok (.aload_n 0, 1) := by decide +kernel
theorem dX5_others_16 : decode cX5_others 16 = .ok (.getfield 13, 3) := by decide +kernel
theorem dX5_others_19 : decode cX5_others 19 = .ok (.iload 4, 2) := by decide +kernel
theorem dX5_others_21 : decode cX5_others 21 = .ok (.baload, 1) := by decide +kernel
theorem dX5_others_22 : decode cX5_others 22 = .ok (.ifCond .eq 24, 3) := by decide +kernel
theorem dX5_others_25 : decode cX5_others 25 = .ok (.iload 4, 2) := by decide +kernel
theorem dX5_others_27 : decode cX5_others 27 = .ok (.iload_n 2, 1) := by decide +kernel
theorem dX5_others_28 : decode cX5_others 28 = .ok (.if_icmp .eq 18, 3) := by decide +kernel
theorem dX5_others_31 : decode cX5_others 31 = .ok (.aload_n 0, 1) := by decide +kernel
theorem dX5_others_32 : decode cX5_others 32 = .ok (.getfield 17, 3) := by decide +kernel
theorem dX5_others_35 : decode cX5_others 35 = .ok (.bipush 6, 2) := by decide +kernel
theorem dX5_others_37 : decode cX5_others 37 = .ok (.iload 4, 2) := by decide +kernel
theorem dX5_others_39 : decode cX5_others 39 = .ok (.imul, 1) := by decide +kernel
theorem dX5_others_40 : decode cX5_others 40 = .ok (.iload_n 1, 1) := by decide +kernel
theorem dX5_others_41 : decode cX5_others 41 = .ok (.iadd, 1) := by decide +kernel
theorem dX5_others_42 : decode cX5_others 42 = .ok (.iaload, 1) := by decide +kernel
theorem dX5_others_43 : decode cX5_others 43 = .ok (.goto 4, 3) := by decide +kernel
theorem dX5_others_46 : decode cX5_others 46 = .ok (.iconst 0, 1) := by decide +kernel
theorem dX5_others_47 : decode cX5_others 47 = .ok (.iadd, 1) := by decide +kernel
theorem dX5_others_48 : decode cX5_others 48 = .ok (.istore_n 3, 1) := by decide +kernel
theorem dX5_others_49 : decode cX5_others 49 = .ok (.iinc 4 1, 3) := by decide +kernel
theorem dX5_others_52 : decode cX5_others 52 = .ok (.goto (-47), 3) := by decide +kernel
theorem dX5_others_55 : decode cX5_others 55 = .ok (.iload_n 3, 1) := by decide +kernel
theorem dX5_others_56 : decode cX5_others 56 = .ok (.ireturn, 1) := by decide +kernel
set_option maxRecDepth 20000 in
theorem ggX5_total_X5_isQuestion : GoodIn wsX5_total wsX5_isQuestion := goodIn_r _ [5, 6, 7, 8, 4, 9, 17, 18, 19, 20, 21, 22, 23, 24, 25, 26, 27, 28, 29, 30, 31, 32, 33, 34, 35, 36, 37, 38, 39, 40, 41] (by decide +kernel) (by decide +kernel)
set_option maxRecDepth 20000 in
theorem gX5_total_X5_isQuestion : GoodIn wsX5_total (wsV RX5 72 RX5 yX5_isQuestion wsX5_isQuestion) := goodIn_app (goodIn_of _ (by decide +kernel)) ggX5_total_X5_isQuestion
set_option maxRecDepth 20000 in
theorem ggX5_total_X5_others : GoodIn wsX5_total wsX5_others := goodIn_r _ [13, 14, 15, 16, 17, 18, 19, 20, 21, 22, 23, 24, 25, 26, 27, 28, 29, 30, 31, 32, 33, 34, 35, 36, 37, 38, 39, 40, 41] (by decide +kernel) (by decide +kernel)
set_option maxRecDepth 20000 in
theorem gX5_total_X5_others : GoodIn wsX5_total (wsV RX5 79 RX5 yX5_others wsX5_others) := goodIn_app (goodIn_of _ (by decide +kernel)) ggX5_total_X5_others
theorem dX5_total_0 : decode cX5_total 0 = .ok (.aload_n 0, 1) := by decide +kernel
theorem dX5_total_1 : decode cX5_total 1 = .ok (.iload_n 1, 1) := by decide +kernel
theorem dX5_total_2 : decode cX5_total 2 = .ok (.invokevirtual 72, 3) := by decide +kernel
theorem dX5_total_5 : decode cX5_total 5 = .ok (.ifCond .eq 12, 3) := by decide +kernel
theorem dX5_total_8 : decode cX5_total 8 = .ok (.aload_n 0, 1) := by decide +kernel
theorem dX5_total_9 : decode cX5_total 9 = .ok (.iload_n 1, 1) := by decide +kernel
theorem dX5_total_10 : decode cX5_total 10 = .ok (.iconst (-1), 1) := by decide +kernel
theorem dX5_total_11 : decode cX5_total 11 = .ok (.invokevirtual 79, 3) := by decide +kernel
theorem dX5_total_14 : decode cX5_total 14 = .ok (.goto 6, 3) := by decide +kernel
theorem dX5_total_17 : decode cX5_total 17 = .ok (.sipush (-2000), 3) := by decide +kernel
theorem dX5_total_20 : decode cX5_total 20 = .ok (.ireturn, 1) := by decide +kernel
theorem dX5_resultOf_0 : decode cX5_resultOf 0 = .ok (.iload_n 2, 1) := by decide +kernel
theorem dX5_resultOf_1 : decode cX5_resultOf 1 = .ok (.ifCond .eq 13, 3) := by decide +kernel
theorem dX5_resultOf_4 : decode cX5_resultOf 4 = .ok (.iload_n 2, 1) := by decide +kernel
theorem dX5_resultOf_5 : decode cX5_resultOf 5 = .ok (.ifCond .le 7, 3) := by decide +kernel
theorem dX5_resultOf_8 : decode cX5_resultOf 8 = .ok (.iconst 1, 1) := by decide +kernel
theorem dX5_resultOf_9 : decode cX5_resultOf 9 = .ok (.goto 4, 3) := by decide +kernel
theorem dX5_resultOf_12 : decode cX5_resultOf 12 = .ok (.iconst (-1), 1) := by decide +kernel
theorem dX5_resultOf_13 : decode cX5_resultOf 13 = .ok (.ireturn, 1) := by decide +kernel
theorem dX5_resultOf_14 : decode cX5_resultOf 14 = .ok (.aload_n 0, 1) := by decide +kernel
theorem dX5_resultOf_15 : decode cX5_resultOf 15 = .ok (.getfield 65, 3) := by decide +kernel
theorem dX5_resultOf_18 : decode cX5_resultOf 18 = .ok (.istore_n 3, 1) := by decide +kernel
theorem dX5_resultOf_19 : decode cX5_resultOf 19 = .ok (.iconst 0, 1) := by decide +kernel
theorem dX5_resultOf_20 : decode cX5_resultOf 20 = .ok (.istore 4, 2) := by decide +kernel
theorem dX5_resultOf_22 : decode cX5_resultOf 22 = .ok (.iload 4, 2) := by decide +kernel
theorem dX5_resultOf_24 : decode cX5_resultOf 24 = .ok (.iload_n 1, 1) := by decide +kernel
theorem dX5_resultOf_25 : decode cX5_resultOf 25 = .ok (.if_icmp .gt 17, 3) := by decide +kernel
theorem dX5_resultOf_28 : decode cX5_resultOf 28 = .ok (.iload_n 3, 1) := by decide +kernel
theorem dX5_resultOf_29 : decode cX5_resultOf 29 = .ok (.ldc 83, 2) := by decide +kernel
theorem dX5_resultOf_31 : decode cX5_resultOf 31 = .ok (.imul, 1) := by decide +kernel
theorem dX5_resultOf_32 : decode cX5_resultOf 32 = .ok (.ldc 84, 2) := by decide +kernel
theorem dX5_resultOf_34 : decode cX5_resultOf 34 = .ok (.iadd, 1) := by decide +kernel
theorem dX5_resultOf_35 : decode cX5_resultOf 35 = .ok (.istore_n 3, 1) := by decide +kernel
theorem dX5_resultOf_36 : decode cX5_resultOf 36 = .ok (.iinc 4 1, 3) := by decide +kernel
theorem dX5_resultOf_39 : decode cX5_resultOf 39 = .ok (.goto (-17), 3) := by decide +kernel
theorem dX5_resultOf_42 : decode cX5_resultOf 42 = .ok (.iload_n 3, 1) := by decide +kernel
theorem dX5_resultOf_43 : decode cX5_resultOf 43 = .ok (.bipush 20, 2) := by decide +kernel
theorem dX5_resultOf_45 : decode cX5_resultOf 45 = .ok (.ishr, 1) := by decide +kernel
theorem dX5_resultOf_46 : decode cX5_resultOf 46 = .ok (.iconst 1, 1) := by decide +kernel
theorem dX5_resultOf_47 : decode cX5_resultOf 47 = .ok (.iand, 1) := by decide +kernel
theorem dX5_resultOf_48 : decode cX5_resultOf 48 = .ok (.iconst 1, 1) := by decide +kernel
theorem dX5_resultOf_49 : decode cX5_resultOf 49 = .ok (.if_icmp .ne 7, 3) := by decide +kernel
theorem dX5_resultOf_52 : decode cX5_resultOf 52 = .ok (.iconst 1, 1) := by decide +kernel
theorem dX5_resultOf_53 : decode cX5_resultOf 53 = .ok (.goto 4, 3) := by decide +kernel
theorem dX5_resultOf_56 : decode cX5_resultOf 56 = .ok (.iconst (-1), 1) := by decide +kernel
theorem dX5_resultOf_57 : decode cX5_resultOf 57 = .ok (.ireturn, 1) := by decide +kernel
set_option maxRecDepth 20000 in
theorem ggX5_result_X5_isQuestion : GoodIn wsX5_result wsX5_isQuestion := goodIn_r _ [5, 6, 7, 8, 4, 9, 24, 25, 26, 27, 28, 29, 30, 31, 32, 33, 34, 35, 36, 37, 38, 39, 40, 41, 42, 43, 44, 45, 46, 47, 48] (by decide +kernel) (by decide +kernel)
set_option maxRecDepth 20000 in
theorem gX5_result_X5_isQuestion : GoodIn wsX5_result (wsV RX5 72 RX5 yX5_isQuestion wsX5_isQuestion) := goodIn_app (goodIn_of _ (by decide +kernel)) ggX5_result_X5_isQuestion
set_option maxRecDepth 20000 in
theorem ggX5_result_X5_others : GoodIn wsX5_result wsX5_others := goodIn_r _ [13, 14, 15, 16, 24, 25, 26, 27, 28, 29, 30, 31, 32, 33, 34, 35, 36, 37, 38, 39, 40, 41, 42, 43, 44, 45, 46, 47, 48] (by decide +kernel) (by decide +kernel)
set_option maxRecDepth 20000 in
theorem gX5_result_X5_others : GoodIn wsX5_result (wsV RX5 79 RX5 yX5_others wsX5_others) := goodIn_app (goodIn_of _ (by decide +kernel)) ggX5_result_X5_others
set_option maxRecDepth 20000 in
theorem ggX5_result_X5_resultOf : GoodIn wsX5_result wsX5_resultOf := goodIn_r _ [20, 21, 22, 23, 24, 25, 26, 27, 28, 29, 30, 31, 32, 33, 34, 35, 36, 37, 38, 39, 40, 41, 42, 43, 44, 45, 46, 47, 48] (by decide +kernel) (by decide +kernel)
set_option maxRecDepth 20000 in
theorem gX5_result_X5_resultOf : GoodIn wsX5_result (wsV RX5 85 RX5 yX5_resultOf wsX5_resultOf) := goodIn_app (goodIn_of _ (by decide +kernel)) ggX5_result_X5_resultOf
theorem dX5_result_0 : decode cX5_result 0 = .ok (.aload_n 0, 1) := by decide +kernel
theorem dX5_result_1 : decode cX5_result 1 = .ok (.iload_n 1, 1) := by decide +kernel
theorem dX5_result_2 : decode cX5_result 2 = .ok (.invokevirtual 72, 3) := by decide +kernel
theorem dX5_result_5 : decode cX5_result 5 = .ok (.ifCond .eq 17, 3) := by decide +kernel
theorem dX5_result_8 : decode cX5_result 8 = .ok (.aload_n 0, 1) := by decide +kernel
theorem dX5_result_9 : decode cX5_result 9 = .ok (.iload_n 1, 1) := by decide +kernel
theorem dX5_result_10 : decode cX5_result 10 = .ok (.aload_n 0, 1) := by decide +kernel
theorem dX5_result_11 : decode cX5_result 11 = .ok (.iload_n 1, 1) := by decide +kernel
theorem dX5_result_12 : decode cX5_result 12 = .ok (.iconst (-1), 1) := by decide +kernel
theorem dX5_result_13 : decode cX5_result 13 = .ok (.invokevirtual 79, 3) := by decide +kernel
theorem dX5_result_16 : decode cX5_result 16 = .ok (.invokevirtual 85, 3) := by decide +kernel
theorem dX5_result_19 : decode cX5_result 19 = .ok (.goto 5, 3) := by decide +kernel
theorem dX5_result_22 : decode cX5_result 22 = .ok (.bipush (-101), 2) := by decide +kernel
theorem dX5_result_24 : decode cX5_result 24 = .ok (.ireturn, 1) := by decide +kernel
theorem dX5_gainBy_0 : decode cX5_gainBy 0 = .ok (.iload_n 1, 1) := by decide +kernel
theorem dX5_gainBy_1 : decode cX5_gainBy 1 = .ok (.ifCond .le 9, 3) := by decide +kernel
theorem dX5_gainBy_4 : decode cX5_gainBy 4 = .ok (.iconst 2, 1) := by decide +kernel
theorem dX5_gainBy_5 : decode cX5_gainBy 5 = .ok (.iload_n 0, 1) := by decide +kernel
theorem dX5_gainBy_6 : decode cX5_gainBy 6 = .ok (.imul, 1) := by decide +kernel
theorem dX5_gainBy_7 : decode cX5_gainBy 7 = .ok (.goto 12, 3) := by decide +kernel
theorem dX5_gainBy_10 : decode cX5_gainBy 10 = .ok (.iload_n 1, 1) := by decide +kernel
theorem dX5_gainBy_11 : decode cX5_gainBy 11 = .ok (.ifCond .ne 7, 3) := by decide +kernel
theorem dX5_gainBy_14 : decode cX5_gainBy 14 = .ok (.iload_n 0, 1) := by decide +kernel
theorem dX5_gainBy_15 : decode cX5_gainBy 15 = .ok (.goto 4, 3) := by decide +kernel
theorem dX5_gainBy_18 : decode cX5_gainBy 18 = .ok (.iconst 0, 1) := by decide +kernel
theorem dX5_gainBy_19 : decode cX5_gainBy 19 = .ok (.ireturn, 1) := by decide +kernel
set_option maxRecDepth 20000 in
theorem ggX5_gainOf_X5_others : GoodIn wsX5_gainOf wsX5_others := goodIn_r _ [7, 8, 9, 10, 14, 15, 16, 17, 18, 19, 20, 21, 22, 23, 24, 25, 26, 27, 28, 29, 30, 31, 32, 33, 34, 35, 36, 37, 38] (by decide +kernel) (by decide +kernel)
set_option maxRecDepth 20000 in
theorem gX5_gainOf_X5_others : GoodIn wsX5_gainOf (wsV RX5 79 RX5 yX5_others wsX5_others) := goodIn_app (goodIn_of _ (by decide +kernel)) ggX5_gainOf_X5_others
set_option maxRecDepth 20000 in
theorem ggX5_gainOf_X5_gainBy : GoodIn wsX5_gainOf wsX5_gainBy := goodIn_r _ [13] (by decide +kernel) (by decide +kernel)
set_option maxRecDepth 20000 in
theorem gX5_gainOf_X5_gainBy : GoodIn wsX5_gainOf (va_wsS RX5 88 yX5_gainBy wsX5_gainBy) := goodIn_app (goodIn_of _ (by decide +kernel)) ggX5_gainOf_X5_gainBy
theorem dX5_gainOf_0 : decode cX5_gainOf 0 = .ok (.iconst 0, 1) := by decide +kernel
theorem dX5_gainOf_1 : decode cX5_gainOf 1 = .ok (.istore_n 2, 1) := by decide +kernel
theorem dX5_gainOf_2 : decode cX5_gainOf 2 = .ok (.iconst 0, 1) := by decide +kernel
theorem dX5_gainOf_3 : decode cX5_gainOf 3 = .ok (.istore_n 3, 1) := by decide +kernel
theorem dX5_gainOf_4 : decode cX5_gainOf 4 = .ok (.iload_n 3, 1) := by decide +kernel
theorem dX5_gainOf_5 : decode cX5_gainOf 5 = .ok (.aload_n 0, 1) := by decide +kernel
theorem dX5_gainOf_6 : decode cX5_gainOf 6 = .ok (.getfield 59, 3) := by decide +kernel
theorem dX5_gainOf_9 : decode cX5_gainOf 9 = .ok (.if_icmp .ge 32, 3) := by decide +kernel
theorem dX5_gainOf_12 : decode cX5_gainOf 12 = .ok (.iload_n 2, 1) := by decide +kernel
theorem dX5_gainOf_13 : decode cX5_gainOf 13 = .ok (.aload_n 0, 1) := by decide +kernel
theorem dX5_gainOf_14 : decode cX5_gainOf 14 = .ok (.getfield 20, 3) := by decide +kernel
theorem dX5_gainOf_17 : decode cX5_gainOf 17 = .ok (.bipush 6, 2) := by decide +kernel
theorem dX5_gainOf_19 : decode cX5_gainOf 19 = .ok (.iload_n 1, 1) := by decide +kernel
theorem dX5_gainOf_20 : decode cX5_gainOf 20 = .ok (.imul, 1) := by decide +kernel
theorem dX5_gainOf_21 : decode cX5_gainOf 21 = .ok (.iload_n 3, 1) := by decide +kernel
theorem dX5_gainOf_22 : decode cX5_gainOf 22 = .ok (.iadd, 1) := by decide +kernel
theorem dX5_gainOf_23 : decode cX5_gainOf 23 = .ok (.iaload, 1) := by decide +kernel
theorem dX5_gainOf_24 : decode cX5_gainOf 24 = .ok (.aload_n 0, 1) := by decide +kernel
theorem dX5_gainOf_25 : decode cX5_gainOf 25 = .ok (.iload_n 3, 1) := by decide +kernel
theorem dX5_gainOf_26 : decode cX5_gainOf 26 = .ok (.iconst (-1), 1) := by decide +kernel
theorem dX5_gainOf_27 : decode cX5_gainOf 27 = .ok (.invokevirtual 79, 3) := by decide +kernel
theorem dX5_gainOf_30 : decode cX5_gainOf 30 = .ok (.invokestatic 88, 3) := by decide +kernel
theorem dX5_gainOf_33 : decode cX5_gainOf 33 = .ok (.iadd, 1) := by decide +kernel
theorem dX5_gainOf_34 : decode cX5_gainOf 34 = .ok (.istore_n 2, 1) := by decide +kernel
theorem dX5_gainOf_35 : decode cX5_gainOf 35 = .ok (.iinc 3 1, 3) := by decide +kernel
theorem dX5_gainOf_38 : decode cX5_gainOf 38 = .ok (.goto (-34), 3) := by decide +kernel
theorem dX5_gainOf_41 : decode cX5_gainOf 41 = .ok (.iload_n 2, 1) := by decide +kernel
theorem dX5_gainOf_42 : decode cX5_gainOf 42 = .ok (.ireturn, 1) := by decide +kernel
set_option maxRecDepth 20000 in
theorem ggX5_gain_X5_isPerson : GoodIn wsX5_gain wsX5_isPerson := goodIn_r _ [6, 7, 8, 9, 5, 10, 26, 27, 28, 29, 30, 31, 32, 33, 34, 35, 36, 37, 38, 39, 40, 41, 42, 43, 44, 45, 46, 47, 48, 49, 50] (by decide +kernel) (by decide +kernel)
set_option maxRecDepth 20000 in
theorem gX5_gain_X5_isPerson : GoodIn wsX5_gain (wsV RX5 68 RX5 yX5_isPerson wsX5_isPerson) := goodIn_app (goodIn_of _ (by decide +kernel)) ggX5_gain_X5_isPerson
set_option maxRecDepth 20000 in
theorem ggX5_gain_X5_gainOf : GoodIn wsX5_gain wsX5_gainOf := goodIn_r _ [14, 15, 16, 17, 18, 19, 5, 20, 7, 21, 22, 23, 24, 25, 26, 27, 28, 29, 30, 31, 32, 33, 34, 35, 36, 37, 38, 39, 40, 41, 42, 43, 44, 45, 46, 47, 48, 49, 50] (by decide +kernel) (by decide +kernel)
set_option maxRecDepth 20000 in
theorem gX5_gain_X5_gainOf : GoodIn wsX5_gain (wsV RX5 91 RX5 yX5_gainOf wsX5_gainOf) := goodIn_app (goodIn_of _ (by decide +kernel)) ggX5_gain_X5_gainOf
theorem dX5_gain_0 : decode cX5_gain 0 = .ok (.aload_n 0, 1) := by decide +kernel
theorem dX5_gain_1 : decode cX5_gain 1 = .ok (.iload_n 1, 1) := by decide +kernel
theorem dX5_gain_2 : decode cX5_gain 2 = .ok (.invokevirtual 68, 3) := by decide +kernel
theorem dX5_gain_5 : decode cX5_gain 5 = .ok (.ifCond .eq 11, 3) := by decide +kernel
theorem dX5_gain_8 : decode cX5_gain 8 = .ok (.aload_n 0, 1) := by decide +kernel
theorem dX5_gain_9 : decode cX5_gain 9 = .ok (.iload_n 1, 1) := by decide +kernel
theorem dX5_gain_10 : decode cX5_gain 10 = .ok (.invokevirtual 91, 3) := by decide +kernel
theorem dX5_gain_13 : decode cX5_gain 13 = .ok (.goto 5, 3) := by decide +kernel
theorem dX5_gain_16 : decode cX5_gain 16 = .ok (.ldc 94, 2) := by decide +kernel
theorem dX5_gain_18 : decode cX5_gain 18 = .ok (.ireturn, 1) := by decide +kernel
set_option maxRecDepth 20000 in
theorem ggX5_swings_X5_isPerson : GoodIn wsX5_swings wsX5_isPerson := goodIn_r _ [7, 8, 9, 10, 6, 11, 24, 25, 26, 27, 28, 29, 30, 31, 32, 33, 34, 35, 36, 37, 38, 39, 40, 41, 42, 43, 44, 45, 46, 47, 48] (by decide +kernel) (by decide +kernel)
set_option maxRecDepth 20000 in
theorem gX5_swings_X5_isPerson : GoodIn wsX5_swings (wsV RX5 68 RX5 yX5_isPerson wsX5_isPerson) := goodIn_app (goodIn_of _ (by decide +kernel)) ggX5_swings_X5_isPerson
set_option maxRecDepth 20000 in
theorem ggX5_swings_X5_others : GoodIn wsX5_swings wsX5_others := goodIn_r _ [15, 8, 16, 2, 24, 25, 26, 27, 28, 29, 30, 31, 32, 33, 34, 35, 36, 37, 38, 39, 40, 41, 42, 43, 44, 45, 46, 47, 48] (by decide +kernel) (by decide +kernel)
set_option maxRecDepth 20000 in
theorem gX5_swings_X5_others : GoodIn wsX5_swings (wsV RX5 79 RX5 yX5_others wsX5_others) := goodIn_app (goodIn_of _ (by decide +kernel)) ggX5_swings_X5_others
set_option maxRecDepth 20000 in
theorem ggX5_swings_X5_resultOf : GoodIn wsX5_swings wsX5_resultOf := goodIn_r _ [20, 21, 22, 23, 24, 25, 26, 27, 28, 29, 30, 31, 32, 33, 34, 35, 36, 37, 38, 39, 40, 41, 42, 43, 44, 45, 46, 47, 48] (by decide +kernel) (by decide +kernel)
set_option maxRecDepth 20000 in
theorem gX5_swings_X5_resultOf : GoodIn wsX5_swings (wsV RX5 85 RX5 yX5_resultOf wsX5_resultOf) := goodIn_app (goodIn_of _ (by decide +kernel)) ggX5_swings_X5_resultOf
theorem dX5_swings_0 : decode cX5_swings 0 = .ok (.aload_n 0, 1) := by decide +kernel
theorem dX5_swings_1 : decode cX5_swings 1 = .ok (.iload_n 1, 1) := by decide +kernel
theorem dX5_swings_2 : decode cX5_swings 2 = .ok (.invokevirtual 68, 3) := by decide +kernel
theorem dX5_swings_5 : decode cX5_swings 5 = .ok (.ifCond .ne 6, 3) := by decide +kernel
theorem dX5_swings_8 : decode cX5_swings 8 = .ok (.bipush (-101), 2) := by decide +kernel
theorem dX5_swings_10 : decode cX5_swings 10 = .ok (.ireturn, 1) := by decide +kernel
theorem dX5_swings_11 : decode cX5_swings 11 = .ok (.iconst 0, 1) := by decide +kernel
theorem dX5_swings_12 : decode cX5_swings 12 = .ok (.istore_n 2, 1) := by decide +kernel
theorem dX5_swings_13 : decode cX5_swings 13 = .ok (.iconst 0, 1) := by decide +kernel
theorem dX5_swings_14 : decode cX5_swings 14 = .ok (.istore_n 3, 1) := by decide +kernel
theorem dX5_swings_15 : decode cX5_swings 15 = .ok (.iload_n 3, 1) := by decide +kernel
theorem dX5_swings_16 : decode cX5_swings 16 = .ok (.aload_n 0, 1) := by decide +kernel
theorem dX5_swings_17 : decode cX5_swings 17 = .ok (.getfield 59, 3) := by decide +kernel
theorem dX5_swings_20 : decode cX5_swings 20 = .ok (.if_icmp .ge 56, 3) := by decide +kernel
theorem dX5_swings_23 : decode cX5_swings 23 = .ok (.aload_n 0, 1) := by decide +kernel
theorem dX5_swings_24 : decode cX5_swings 24 = .ok (.iload_n 3, 1) := by decide +kernel
theorem dX5_swings_25 : decode cX5_swings 25 = .ok (.iload_n 1, 1) := by decide +kernel
theorem dX5_swings_26 : decode cX5_swings 26 = .ok (.invokevirtual 79, 3) := by decide +kernel
theorem dX5_swings_29 : decode cX5_swings 29 = .ok (.istore 4, 2) := by decide +kernel
theorem dX5_swings_31 : decode cX5_swings 31 = .ok (.iload_n 2, 1) := by decide +kernel
theorem dX5_swings_32 : decode cX5_swings 32 = .ok (.aload_n 0, 1) := by decide +kernel
theorem dX5_swings_33 : decode cX5_swings 33 = .ok (.iload_n 3, 1) := by decide +kernel
theorem dX5_swings_34 : decode cX5_swings 34 = .ok (.iload 4, 2) := by decide +kernel
theorem dX5_swings_36 : decode cX5_swings 36 = .ok (.invokevirtual 85, 3) := by decide +kernel
theorem dX5_swings_39 : decode cX5_swings 39 = .ok (.aload_n 0, 1) := by decide +kernel
theorem dX5_swings_40 : decode cX5_swings 40 = .ok (.iload_n 3, 1) := by decide +kernel
theorem dX5_swings_41 : decode cX5_swings 41 = .ok (.iload 4, 2) := by decide +kernel
theorem dX5_swings_43 : decode cX5_swings 43 = .ok (.aload_n 0, 1) := by decide +kernel
theorem dX5_swings_44 : decode cX5_swings 44 = .ok (.getfield 17, 3) := by decide +kernel
theorem dX5_swings_47 : decode cX5_swings 47 = .ok (.bipush 6, 2) := by decide +kernel
theorem dX5_swings_49 : decode cX5_swings 49 = .ok (.iload_n 1, 1) := by decide +kernel
theorem dX5_swings_50 : decode cX5_swings 50 = .ok (.imul, 1) := by decide +kernel
theorem dX5_swings_51 : decode cX5_swings 51 = .ok (.iload_n 3, 1) := by decide +kernel
theorem dX5_swings_52 : decode cX5_swings 52 = .ok (.iadd, 1) := by decide +kernel
theorem dX5_swings_53 : decode cX5_swings 53 = .ok (.iaload, 1) := by decide +kernel
theorem dX5_swings_54 : decode cX5_swings 54 = .ok (.iadd, 1) := by decide +kernel
theorem dX5_swings_55 : decode cX5_swings 55 = .ok (.invokevirtual 85, 3) := by decide +kernel
theorem dX5_swings_58 : decode cX5_swings 58 = .ok (.if_icmp .eq 9, 3) := by decide +kernel
theorem dX5_swings_61 : decode cX5_swings 61 = .ok (.iconst 1, 1) := by decide +kernel
theorem dX5_swings_62 : decode cX5_swings 62 = .ok (.iload_n 3, 1) := by decide +kernel
theorem dX5_swings_63 : decode cX5_swings 63 = .ok (.ishl, 1) := by decide +kernel
theorem dX5_swings_64 : decode cX5_swings 64 = .ok (.goto 4, 3) := by decide +kernel
theorem dX5_swings_67 : decode cX5_swings 67 = .ok (.iconst 0, 1) := by decide +kernel
theorem dX5_swings_68 : decode cX5_swings 68 = .ok (.ior, 1) := by decide +kernel
theorem dX5_swings_69 : decode cX5_swings 69 = .ok (.istore_n 2, 1) := by decide +kernel
theorem dX5_swings_70 : decode cX5_swings 70 = .ok (.iinc 3 1, 3) := by decide +kernel
theorem dX5_swings_73 : decode cX5_swings 73 = .ok (.goto (-58), 3) := by decide +kernel
theorem dX5_swings_76 : decode cX5_swings 76 = .ok (.iload_n 2, 1) := by decide +kernel
theorem dX5_swings_77 : decode cX5_swings 77 = .ok (.ireturn, 1) := by decide +kernel
set_option maxRecDepth 20000 in
theorem ggX5_end_X5_in : GoodIn wsX5_end wsX5_in := goodIn_r _ [6] (by decide +kernel) (by decide +kernel)
set_option maxRecDepth 20000 in
theorem gX5_end_X5_in : GoodIn wsX5_end (va_wsS RX5 55 yX5_in wsX5_in) := goodIn_app (goodIn_of _ (by decide +kernel)) ggX5_end_X5_in
theorem dX5_end_0 : decode cX5_end 0 = .ok (.aload_n 0, 1) := by decide +kernel
theorem dX5_end_1 : decode cX5_end 1 = .ok (.getfield 29, 3) := by decide +kernel
theorem dX5_end_4 : decode cX5_end 4 = .ok (.iload_n 1, 1) := by decide +kernel
theorem dX5_end_5 : decode cX5_end 5 = .ok (.iload_n 2, 1) := by decide +kernel
theorem dX5_end_6 : decode cX5_end 6 = .ok (.iastore, 1) := by decide +kernel
theorem dX5_end_7 : decode cX5_end 7 = .ok (.aload_n 0, 1) := by decide +kernel
theorem dX5_end_8 : decode cX5_end 8 = .ok (.getfield 32, 3) := by decide +kernel
theorem dX5_end_11 : decode cX5_end 11 = .ok (.iload_n 1, 1) := by decide +kernel
theorem dX5_end_12 : decode cX5_end 12 = .ok (.iload_n 2, 1) := by decide +kernel
theorem dX5_end_13 : decode cX5_end 13 = .ok (.bipush (-40), 2) := by decide +kernel
theorem dX5_end_15 : decode cX5_end 15 = .ok (.bipush 40, 2) := by decide +kernel
theorem dX5_end_17 : decode cX5_end 17 = .ok (.invokestatic 55, 3) := by decide +kernel
theorem dX5_end_20 : decode cX5_end 20 = .ok (.bastore, 1) := by decide +kernel
theorem dX5_end_21 : decode cX5_end 21 = .ok (.return_, 1) := by decide +kernel
theorem dX5_isBetter_0 : decode cX5_isBetter 0 = .ok (.aload_n 0, 1) := by decide +kernel
theorem dX5_isBetter_1 : decode cX5_isBetter 1 = .ok (.getfield 95, 3) := by decide +kernel
theorem dX5_isBetter_4 : decode cX5_isBetter 4 = .ok (.ifCond .eq 11, 3) := by decide +kernel
theorem dX5_isBetter_7 : decode cX5_isBetter 7 = .ok (.iload_n 1, 1) := by decide +kernel
theorem dX5_isBetter_8 : decode cX5_isBetter 8 = .ok (.aload_n 0, 1) := by decide +kernel
theorem dX5_isBetter_9 : decode cX5_isBetter 9 = .ok (.getfield 99, 3) := by decide +kernel
theorem dX5_isBetter_12 : decode cX5_isBetter 12 = .ok (.if_icmp .eq 24, 3) := by decide +kernel
theorem dX5_isBetter_15 : decode cX5_isBetter 15 = .ok (.aload_n 0, 1) := by decide +kernel
theorem dX5_isBetter_16 : decode cX5_isBetter 16 = .ok (.getfield 95, 3) := by decide +kernel
theorem dX5_isBetter_19 : decode cX5_isBetter 19 = .ok (.ifCond .eq 11, 3) := by decide +kernel
theorem dX5_isBetter_22 : decode cX5_isBetter 22 = .ok (.iload_n 1, 1) := by decide +kernel
theorem dX5_isBetter_23 : decode cX5_isBetter 23 = .ok (.aload_n 0, 1) := by decide +kernel
theorem dX5_isBetter_24 : decode cX5_isBetter 24 = .ok (.getfield 99, 3) := by decide +kernel
theorem dX5_isBetter_27 : decode cX5_isBetter 27 = .ok (.if_icmp .le 7, 3) := by decide +kernel
theorem dX5_isBetter_30 : decode cX5_isBetter 30 = .ok (.iconst 1, 1) := by decide +kernel
theorem dX5_isBetter_31 : decode cX5_isBetter 31 = .ok (.goto 4, 3) := by decide +kernel
theorem dX5_isBetter_34 : decode cX5_isBetter 34 = .ok (.iconst 0, 1) := by decide +kernel
theorem dX5_isBetter_35 : decode cX5_isBetter 35 = .ok (.ireturn, 1) := by decide +kernel
theorem dX5_isBetter_36 : decode cX5_isBetter 36 = .ok (.iload_n 2, 1) := by decide +kernel
theorem dX5_isBetter_37 : decode cX5_isBetter 37 = .ok (.aload_n 0, 1) := by decide +kernel
theorem dX5_isBetter_38 : decode cX5_isBetter 38 = .ok (.getfield 102, 3) := by decide +kernel
theorem dX5_isBetter_41 : decode cX5_isBetter 41 = .ok (.if_icmp .eq 17, 3) := by decide +kernel
theorem dX5_isBetter_44 : decode cX5_isBetter 44 = .ok (.iload_n 2, 1) := by decide +kernel
theorem dX5_isBetter_45 : decode cX5_isBetter 45 = .ok (.aload_n 0, 1) := by decide +kernel
theorem dX5_isBetter_46 : decode cX5_isBetter 46 = .ok (.getfield 102, 3) := by decide +kernel
theorem dX5_isBetter_49 : decode cX5_isBetter 49 = .ok (.if_icmp .ge 7, 3) := by decide +kernel
theorem dX5_isBetter_52 : decode cX5_isBetter 52 = .ok (.iconst 1, 1) := by decide +kernel
theorem dX5_isBetter_53 : decode cX5_isBetter 53 = .ok (.goto 4, 3) := by decide +kernel
theorem dX5_isBetter_56 : decode cX5_isBetter 56 = .ok (.iconst 0, 1) := by decide +kernel
theorem dX5_isBetter_57 : decode cX5_isBetter 57 = .ok (.ireturn, 1) := by decide +kernel
theorem dX5_isBetter_58 : decode cX5_isBetter 58 = .ok (.iconst 0, 1) := by decide +kernel
theorem dX5_isBetter_59 : decode cX5_isBetter 59 = .ok (.istore_n 3, 1) := by decide +kernel
theorem dX5_isBetter_60 : decode cX5_isBetter 60 = .ok (.iload_n 3, 1) := by decide +kernel
theorem dX5_isBetter_61 : decode cX5_isBetter 61 = .ok (.aload_n 0, 1) := by decide +kernel
theorem dX5_isBetter_62 : decode cX5_isBetter 62 = .ok (.getfield 59, 3) := by decide +kernel
theorem dX5_isBetter_65 : decode cX5_isBetter 65 = .ok (.if_icmp .ge 45, 3) := by decide +kernel
theorem dX5_isBetter_68 : decode cX5_isBetter 68 = .ok (.aload_n 0, 1) := by decide +kernel
theorem dX5_isBetter_69 : decode cX5_isBetter 69 = .ok (.getfield 38, 3) := by decide +kernel
theorem dX5_isBetter_72 : decode cX5_isBetter 72 = .ok (.iload_n 3, 1) := by decide +kernel
theorem dX5_isBetter_73 : decode cX5_isBetter 73 = .ok (.iaload, 1) := by decide +kernel
theorem dX5_isBetter_74 : decode cX5_isBetter 74 = .ok (.aload_n 0, 1) := by decide +kernel
theorem dX5_isBetter_75 : decode cX5_isBetter 75 = .ok (.getfield 35, 3) := by decide +kernel
theorem dX5_isBetter_78 : decode cX5_isBetter 78 = .ok (.iload_n 3, 1) := by decide +kernel
theorem dX5_isBetter_79 : decode cX5_isBetter 79 = .ok (.iaload, 1) := by decide +kernel
theorem dX5_isBetter_80 : decode cX5_isBetter 80 = .ok (.if_icmp .eq 24, 3) := by decide +kernel
theorem dX5_isBetter_83 : decode cX5_isBetter 83 = .ok (.aload_n 0, 1) := by decide +kernel
theorem dX5_isBetter_84 : decode cX5_isBetter 84 = .ok (.getfield 38, 3) := by decide +kernel
theorem dX5_isBetter_87 : decode cX5_isBetter 87 = .ok (.iload_n 3, 1) := by decide +kernel
theorem dX5_isBetter_88 : decode cX5_isBetter 88 = .ok (.iaload, 1) := by decide +kernel
theorem dX5_isBetter_89 : decode cX5_isBetter 89 = .ok (.aload_n 0, 1) := by decide +kernel
theorem dX5_isBetter_90 : decode cX5_isBetter 90 = .ok (.getfield 35, 3) := by decide +kernel
theorem dX5_isBetter_93 : decode cX5_isBetter 93 = .ok (.iload_n 3, 1) := by decide +kernel
theorem dX5_isBetter_94 : decode cX5_isBetter 94 = .ok (.iaload, 1) := by decide +kernel
theorem dX5_isBetter_95 : decode cX5_isBetter 95 = .ok (.if_icmp .ge 7, 3) := by decide +kernel
theorem dX5_isBetter_98 : decode cX5_isBetter 98 = .ok (.iconst 1, 1) := by decide +kernel
theorem dX5_isBetter_99 : decode cX5_isBetter 99 = .ok (.goto 4, 3) := by decide +kernel
theorem dX5_isBetter_102 : decode cX5_isBetter 102 = .ok (.iconst 0, 1) := by decide +kernel
theorem dX5_isBetter_103 : decode cX5_isBetter 103 = .ok (.ireturn, 1) := by decide +kernel
theorem dX5_isBetter_104 : decode cX5_isBetter 104 = .ok (.iinc 3 1, 3) := by decide +kernel
theorem dX5_isBetter_107 : decode cX5_isBetter 107 = .ok (.goto (-47), 3) := by decide +kernel
theorem dX5_isBetter_110 : decode cX5_isBetter 110 = .ok (.iconst 0, 1) := by decide +kernel
theorem dX5_isBetter_111 : decode cX5_isBetter 111 = .ok (.ireturn, 1) := by decide +kernel
set_option maxRecDepth 20000 in
theorem ggX5_find_X5_others : GoodIn wsX5_find wsX5_others := goodIn_r _ [15, 16, 17, 18, 30, 31, 32, 33, 34, 35, 36, 37, 38, 39, 40, 41, 42, 43, 44, 45, 46, 47, 48, 49, 50, 51, 52, 53, 54] (by decide +kernel) (by decide +kernel)
set_option maxRecDepth 20000 in
theorem gX5_find_X5_others : GoodIn wsX5_find (wsV RX5 79 RX5 yX5_others wsX5_others) := goodIn_app (goodIn_of _ (by decide +kernel)) ggX5_find_X5_others
set_option maxRecDepth 20000 in
theorem ggX5_find_X5_end : GoodIn wsX5_find wsX5_end := goodIn_r _ [22, 3, 4, 23, 24, 14, 25, 30, 31, 32, 33, 34, 35, 36, 37, 38, 39, 40, 41, 42, 43, 44, 45, 46, 47, 48, 49, 50, 51, 52, 53, 54] (by decide +kernel) (by decide +kernel)
set_option maxRecDepth 20000 in
theorem gX5_find_X5_end : GoodIn wsX5_find (wsV RX5 105 RX5 yX5_end wsX5_end) := goodIn_app (goodIn_of _ (by decide +kernel)) ggX5_find_X5_end
set_option maxRecDepth 20000 in
theorem ggX5_find_X5_isBetter : GoodIn wsX5_find wsX5_isBetter := goodIn_r _ [29, 2, 8, 9, 1, 5, 10, 30, 31, 32, 33, 34, 35, 36, 37, 38, 39, 40, 41, 42, 43, 44, 45, 46, 47, 48, 49, 50, 51, 52, 53, 54] (by decide +kernel) (by decide +kernel)
set_option maxRecDepth 20000 in
theorem gX5_find_X5_isBetter : GoodIn wsX5_find (wsV RX5 109 RX5 yX5_isBetter wsX5_isBetter) := goodIn_app (goodIn_of _ (by decide +kernel)) ggX5_find_X5_isBetter
theorem dX5_find_0 : decode cX5_find 0 = .ok (.iconst 1, 1) := by decide +kernel
theorem dX5_find_1 : decode cX5_find 1 = .ok (.istore_n 2, 1) := by decide +kernel
theorem dX5_find_2 : decode cX5_find 2 = .ok (.iconst 0, 1) := by decide +kernel
theorem dX5_find_3 : decode cX5_find 3 = .ok (.istore_n 3, 1) := by decide +kernel
theorem dX5_find_4 : decode cX5_find 4 = .ok (.iload_n 3, 1) := by decide +kernel
theorem dX5_find_5 : decode cX5_find 5 = .ok (.aload_n 0, 1) := by decide +kernel
theorem dX5_find_6 : decode cX5_find 6 = .ok (.getfield 59, 3) := by decide +kernel
theorem dX5_find_9 : decode cX5_find 9 = .ok (.if_icmp .ge 75, 3) := by decide +kernel
theorem dX5_find_12 : decode cX5_find 12 = .ok (.aload_n 0, 1) := by decide +kernel
theorem dX5_find_13 : decode cX5_find 13 = .ok (.iload_n 3, 1) := by decide +kernel
theorem dX5_find_14 : decode cX5_find 14 = .ok (.iload_n 1, 1) := by decide +kernel
theorem dX5_find_15 : decode cX5_find 15 = .ok (.invokevirtual 79, 3) := by decide +kernel
theorem dX5_find_18 : decode cX5_find 18 = .ok (.istore 4, 2) := by decide +kernel
theorem dX5_find_20 : decode cX5_find 20 = .ok (.aload_n 0, 1) := by decide +kernel
theorem dX5_find_21 : decode cX5_find 21 = .ok (.iconst 3, 1) := by decide +kernel
theorem dX5_find_22 : decode cX5_find 22 = .ok (.iload_n 3, 1) := by decide +kernel
theorem dX5_find_23 : decode cX5_find 23 = .ok (.imul, 1) := by decide +kernel
theorem dX5_find_24 : decode cX5_find 24 = .ok (.iload 4, 2) := by decide +kernel
theorem dX5_find_26 : decode cX5_find 26 = .ok (.ifCond .le 7, 3) := by decide +kernel
theorem dX5_find_29 : decode cX5_find 29 = .ok (.iconst 0, 1) := by decide +kernel
theorem dX5_find_30 : decode cX5_find 30 = .ok (.goto 7, 3) := by decide +kernel
theorem dX5_find_33 : decode cX5_find 33 = .ok (.iconst 1, 1) := by decide +kernel
theorem dX5_find_34 : decode cX5_find 34 = .ok (.iload 4, 2) := by decide +kernel
theorem dX5_find_36 : decode cX5_find 36 = .ok (.isub, 1) := by decide +kernel
theorem dX5_find_37 : decode cX5_find 37 = .ok (.invokevirtual 105, 3) := by decide +kernel
theorem dX5_find_40 : decode cX5_find 40 = .ok (.aload_n 0, 1) := by decide +kernel
theorem dX5_find_41 : decode cX5_find 41 = .ok (.iconst 3, 1) := by decide +kernel
theorem dX5_find_42 : decode cX5_find 42 = .ok (.iload_n 3, 1) := by decide +kernel
theorem dX5_find_43 : decode cX5_find 43 = .ok (.imul, 1) := by decide +kernel
theorem dX5_find_44 : decode cX5_find 44 = .ok (.iconst 1, 1) := by decide +kernel
theorem dX5_find_45 : decode cX5_find 45 = .ok (.iadd, 1) := by decide +kernel
theorem dX5_find_46 : decode cX5_find 46 = .ok (.iload 4, 2) := by decide +kernel
theorem dX5_find_48 : decode cX5_find 48 = .ok (.ineg, 1) := by decide +kernel
theorem dX5_find_49 : decode cX5_find 49 = .ok (.invokevirtual 105, 3) := by decide +kernel
theorem dX5_find_52 : decode cX5_find 52 = .ok (.aload_n 0, 1) := by decide +kernel
theorem dX5_find_53 : decode cX5_find 53 = .ok (.iconst 3, 1) := by decide +kernel
theorem dX5_find_54 : decode cX5_find 54 = .ok (.iload_n 3, 1) := by decide +kernel
theorem dX5_find_55 : decode cX5_find 55 = .ok (.imul, 1) := by decide +kernel
theorem dX5_find_56 : decode cX5_find 56 = .ok (.iconst 2, 1) := by decide +kernel
theorem dX5_find_57 : decode cX5_find 57 = .ok (.iadd, 1) := by decide +kernel
theorem dX5_find_58 : decode cX5_find 58 = .ok (.iload 4, 2) := by decide +kernel
theorem dX5_find_60 : decode cX5_find 60 = .ok (.ifCond .ge 7, 3) := by decide +kernel
theorem dX5_find_63 : decode cX5_find 63 = .ok (.iconst 0, 1) := by decide +kernel
theorem dX5_find_64 : decode cX5_find 64 = .ok (.goto 7, 3) := by decide +kernel
theorem dX5_find_67 : decode cX5_find 67 = .ok (.iconst (-1), 1) := by decide +kernel
theorem dX5_find_68 : decode cX5_find 68 = .ok (.iload 4, 2) := by decide +kernel
theorem dX5_find_70 : decode cX5_find 70 = .ok (.isub, 1) := by decide +kernel
theorem dX5_find_71 : decode cX5_find 71 = .ok (.invokevirtual 105, 3) := by decide +kernel
theorem dX5_find_74 : decode cX5_find 74 = .ok (.iload_n 2, 1) := by decide +kernel
theorem dX5_find_75 : decode cX5_find 75 = .ok (.iconst 3, 1) := by decide +kernel
theorem dX5_find_76 : decode cX5_find 76 = .ok (.imul, 1) := by decide +kernel
theorem dX5_find_77 : decode cX5_find 77 = .ok (.istore_n 2, 1) := by decide +kernel
theorem dX5_find_78 : decode cX5_find 78 = .ok (.iinc 3 1, 3) := by decide +kernel
theorem dX5_find_81 : decode cX5_find 81 = .ok (.goto (-77), 3) := by decide +kernel
theorem dX5_find_84 : decode cX5_find 84 = .ok (.aload_n 0, 1) := by decide +kernel
theorem dX5_find_85 : decode cX5_find 85 = .ok (.iconst 0, 1) := by decide +kernel
theorem dX5_find_86 : decode cX5_find 86 = .ok (.putfield 95, 3) := by decide +kernel
theorem dX5_find_89 : decode cX5_find 89 = .ok (.iconst 0, 1) := by decide +kernel
theorem dX5_find_90 : decode cX5_find 90 = .ok (.istore_n 3, 1) := by decide +kernel
theorem dX5_find_91 : decode cX5_find 91 = .ok (.iload_n 3, 1) := by decide +kernel
theorem dX5_find_92 : decode cX5_find 92 = .ok (.iload_n 2, 1) := by decide +kernel
theorem dX5_find_93 : decode cX5_find 93 = .ok (.if_icmp .ge 245, 3) := by decide +kernel
theorem dX5_find_96 : decode cX5_find 96 = .ok (.iload_n 3, 1) := by decide +kernel
theorem dX5_find_97 : decode cX5_find 97 = .ok (.istore 4, 2) := by decide +kernel
theorem dX5_find_99 : decode cX5_find 99 = .ok (.iconst 0, 1) := by decide +kernel
theorem dX5_find_100 : decode cX5_find 100 = .ok (.istore 5, 2) := by decide +kernel
theorem dX5_find_102 : decode cX5_find 102 = .ok (.iconst 0, 1) := by decide +kernel
theorem dX5_find_103 : decode cX5_find 103 = .ok (.istore 6, 2) := by decide +kernel
theorem dX5_find_105 : decode cX5_find 105 = .ok (.iconst 1, 1) := by decide +kernel
theorem dX5_find_106 : decode cX5_find 106 = .ok (.istore 7, 2) := by decide +kernel
theorem dX5_find_108 : decode cX5_find 108 = .ok (.iconst 0, 1) := by decide +kernel
theorem dX5_find_109 : decode cX5_find 109 = .ok (.istore 8, 2) := by decide +kernel
theorem dX5_find_111 : decode cX5_find 111 = .ok (.iload 8, 2) := by decide +kernel
theorem dX5_find_113 : decode cX5_find 113 = .ok (.aload_n 0, 1) := by decide +kernel
theorem dX5_find_114 : decode cX5_find 114 = .ok (.getfield 59, 3) := by decide +kernel
theorem dX5_find_117 : decode cX5_find 117 = .ok (.if_icmp .ge 139, 3) := by decide +kernel
theorem dX5_find_120 : decode cX5_find 120 = .ok (.iload 4, 2) := by decide +kernel
theorem dX5_find_122 : decode cX5_find 122 = .ok (.iconst 3, 1) := by decide +kernel
theorem dX5_find_123 : decode cX5_find 123 = .ok (.irem, 1) := by decide +kernel
theorem dX5_find_124 : decode cX5_find 124 = .ok (.istore 9, 2) := by decide +kernel
theorem dX5_find_126 : decode cX5_find 126 = .ok (.iload 4, 2) := by decide +kernel
theorem dX5_find_128 : decode cX5_find 128 = .ok (.iconst 3, 1) := by decide +kernel
theorem dX5_find_129 : decode cX5_find 129 = .ok (.idiv, 1) := by decide +kernel
theorem dX5_find_130 : decode cX5_find 130 = .ok (.istore 4, 2) := by decide +kernel
theorem dX5_find_132 : decode cX5_find 132 = .ok (.aload_n 0, 1) := by decide +kernel
theorem dX5_find_133 : decode cX5_find 133 = .ok (.getfield 29, 3) := by decide +kernel
theorem dX5_find_136 : decode cX5_find 136 = .ok (.iconst 3, 1) := by decide +kernel
theorem dX5_find_137 : decode cX5_find 137 = .ok (.iload 8, 2) := by decide +kernel
theorem dX5_find_139 : decode cX5_find 139 = .ok (.imul, 1) := by decide +kernel
theorem dX5_find_140 : decode cX5_find 140 = .ok (.iload 9, 2) := by decide +kernel
theorem dX5_find_142 : decode cX5_find 142 = .ok (.iadd, 1) := by decide +kernel
theorem dX5_find_143 : decode cX5_find 143 = .ok (.iaload, 1) := by decide +kernel
theorem dX5_find_144 : decode cX5_find 144 = .ok (.istore 10, 2) := by decide +kernel
theorem dX5_find_146 : decode cX5_find 146 = .ok (.iload 7, 2) := by decide +kernel
theorem dX5_find_148 : decode cX5_find 148 = .ok (.ifCond .eq 22, 3) := by decide +kernel
theorem dX5_find_151 : decode cX5_find 151 = .ok (.aload_n 0, 1) := by decide +kernel
theorem dX5_find_152 : decode cX5_find 152 = .ok (.getfield 32, 3) := by decide +kernel
theorem dX5_find_155 : decode cX5_find 155 = .ok (.iconst 3, 1) := by decide +kernel
theorem dX5_find_156 : decode cX5_find 156 = .ok (.iload 8, 2) := by decide +kernel
theorem dX5_find_158 : decode cX5_find 158 = .ok (.imul, 1) := by decide +kernel
theorem dX5_find_159 : decode cX5_find 159 = .ok (.iload 9, 2) := by decide +kernel
theorem dX5_find_161 : decode cX5_find 161 = .ok (.iadd, 1) := by decide +kernel
theorem dX5_find_162 : decode cX5_find 162 = .ok (.baload, 1) := by decide +kernel
theorem dX5_find_163 : decode cX5_find 163 = .ok (.ifCond .eq 7, 3) := by decide +kernel
theorem dX5_find_166 : decode cX5_find 166 = .ok (.iconst 1, 1) := by decide +kernel
theorem dX5_find_167 : decode cX5_find 167 = .ok (.goto 4, 3) := by decide +kernel
theorem dX5_find_170 : decode cX5_find 170 = .ok (.iconst 0, 1) := by decide +kernel
theorem dX5_find_171 : decode cX5_find 171 = .ok (.istore 7, 2) := by decide +kernel
theorem dX5_find_173 : decode cX5_find 173 = .ok (.aload_n 0, 1) := by decide +kernel
theorem dX5_find_174 : decode cX5_find 174 = .ok (.getfield 38, 3) := by decide +kernel
theorem dX5_find_177 : decode cX5_find 177 = .ok (.iload 8, 2) := by decide +kernel
theorem dX5_find_179 : decode cX5_find 179 = .ok (.iload 10, 2) := by decide +kernel
theorem dX5_find_181 : decode cX5_find 181 = .ok (.iastore, 1) := by decide +kernel
theorem dX5_find_182 : decode cX5_find 182 = .ok (.iload 6, 2) := by decide +kernel
theorem dX5_find_184 : decode cX5_find 184 = .ok (.iload 7, 2) := by decide +kernel
theorem dX5_find_186 : decode cX5_find 186 = .ok (.ifCond .eq 11, 3) := by decide +kernel
theorem dX5_find_189 : decode cX5_find 189 = .ok (.iload 10, 2) := by decide +kernel
theorem dX5_find_191 : decode cX5_find 191 = .ok (.iload 10, 2) := by decide +kernel
theorem dX5_find_193 : decode cX5_find 193 = .ok (.imul, 1) := by decide +kernel
theorem dX5_find_194 : decode cX5_find 194 = .ok (.goto 4, 3) := by decide +kernel
theorem dX5_find_197 : decode cX5_find 197 = .ok (.iconst 0, 1) := by decide +kernel
theorem dX5_find_198 : decode cX5_find 198 = .ok (.iadd, 1) := by decide +kernel
theorem dX5_find_199 : decode cX5_find 199 = .ok (.istore 6, 2) := by decide +kernel
theorem dX5_find_201 : decode cX5_find 201 = .ok (.iload 5, 2) := by decide +kernel
theorem dX5_find_203 : decode cX5_find 203 = .ok (.iload 9, 2) := by decide +kernel
theorem dX5_find_205 : decode cX5_find 205 = .ok (.ifCond .ne 20, 3) := by decide +kernel
theorem dX5_find_208 : decode cX5_find 208 = .ok (.iconst 2, 1) := by decide +kernel
theorem dX5_find_209 : decode cX5_find 209 = .ok (.aload_n 0, 1) := by decide +kernel
theorem dX5_find_210 : decode cX5_find 210 = .ok (.getfield 20, 3) := by decide +kernel
theorem dX5_find_213 : decode cX5_find 213 = .ok (.bipush 6, 2) := by decide +kernel
theorem dX5_find_215 : decode cX5_find 215 = .ok (.iload_n 1, 1) := by decide +kernel
theorem dX5_find_216 : decode cX5_find 216 = .ok (.imul, 1) := by decide +kernel
theorem dX5_find_217 : decode cX5_find 217 = .ok (.iload 8, 2) := by decide +kernel
theorem dX5_find_219 : decode cX5_find 219 = .ok (.iadd, 1) := by decide +kernel
theorem dX5_find_220 : decode cX5_find 220 = .ok (.iaload, 1) := by decide +kernel
theorem dX5_find_221 : decode cX5_find 221 = .ok (.imul, 1) := by decide +kernel
theorem dX5_find_222 : decode cX5_find 222 = .ok (.goto 25, 3) := by decide +kernel
theorem dX5_find_225 : decode cX5_find 225 = .ok (.iload 9, 2) := by decide +kernel
theorem dX5_find_227 : decode cX5_find 227 = .ok (.iconst 1, 1) := by decide +kernel
theorem dX5_find_228 : decode cX5_find 228 = .ok (.if_icmp .ne 18, 3) := by decide +kernel
theorem dX5_find_231 : decode cX5_find 231 = .ok (.aload_n 0, 1) := by decide +kernel
theorem dX5_find_232 : decode cX5_find 232 = .ok (.getfield 20, 3) := by decide +kernel
theorem dX5_find_235 : decode cX5_find 235 = .ok (.bipush 6, 2) := by decide +kernel
theorem dX5_find_237 : decode cX5_find 237 = .ok (.iload_n 1, 1) := by decide +kernel
theorem dX5_find_238 : decode cX5_find 238 = .ok (.imul, 1) := by decide +kernel
theorem dX5_find_239 : decode cX5_find 239 = .ok (.iload 8, 2) := by decide +kernel
theorem dX5_find_241 : decode cX5_find 241 = .ok (.iadd, 1) := by decide +kernel
theorem dX5_find_242 : decode cX5_find 242 = .ok (.iaload, 1) := by decide +kernel
theorem dX5_find_243 : decode cX5_find 243 = .ok (.goto 4, 3) := by decide +kernel
theorem dX5_find_246 : decode cX5_find 246 = .ok (.iconst 0, 1) := by decide +kernel
theorem dX5_find_247 : decode cX5_find 247 = .ok (.iadd, 1) := by decide +kernel
theorem dX5_find_248 : decode cX5_find 248 = .ok (.istore 5, 2) := by decide +kernel
theorem dX5_find_250 : decode cX5_find 250 = .ok (.iinc 8 1, 3) := by decide +kernel
theorem dX5_find_253 : decode cX5_find 253 = .ok (.goto (-142), 3) := by decide +kernel
theorem dX5_find_256 : decode cX5_find 256 = .ok (.iload 7, 2) := by decide +kernel
theorem dX5_find_258 : decode cX5_find 258 = .ok (.ifCond .eq 74, 3) := by decide +kernel
theorem dX5_find_261 : decode cX5_find 261 = .ok (.iload 6, 2) := by decide +kernel
theorem dX5_find_263 : decode cX5_find 263 = .ok (.aload_n 0, 1) := by decide +kernel
theorem dX5_find_264 : decode cX5_find 264 = .ok (.getfield 7, 3) := by decide +kernel
theorem dX5_find_267 : decode cX5_find 267 = .ok (.iload_n 1, 1) := by decide +kernel
theorem dX5_find_268 : decode cX5_find 268 = .ok (.iaload, 1) := by decide +kernel
theorem dX5_find_269 : decode cX5_find 269 = .ok (.if_icmp .gt 63, 3) := by decide +kernel
theorem dX5_find_272 : decode cX5_find 272 = .ok (.aload_n 0, 1) := by decide +kernel
theorem dX5_find_273 : decode cX5_find 273 = .ok (.iload 5, 2) := by decide +kernel
theorem dX5_find_275 : decode cX5_find 275 = .ok (.iload 6, 2) := by decide +kernel
theorem dX5_find_277 : decode cX5_find 277 = .ok (.invokevirtual 109, 3) := by decide +kernel
theorem dX5_find_280 : decode cX5_find 280 = .ok (.ifCond .eq 52, 3) := by decide +kernel
theorem dX5_find_283 : decode cX5_find 283 = .ok (.aload_n 0, 1) := by decide +kernel
theorem dX5_find_284 : decode cX5_find 284 = .ok (.iconst 1, 1) := by decide +kernel
theorem dX5_find_285 : decode cX5_find 285 = .ok (.putfield 95, 3) := by decide +kernel
theorem dX5_find_288 : decode cX5_find 288 = .ok (.aload_n 0, 1) := by decide +kernel
theorem dX5_find_289 : decode cX5_find 289 = .ok (.iload 5, 2) := by decide +kernel
theorem dX5_find_291 : decode cX5_find 291 = .ok (.putfield 99, 3) := by decide +kernel
theorem dX5_find_294 : decode cX5_find 294 = .ok (.aload_n 0, 1) := by decide +kernel
theorem dX5_find_295 : decode cX5_find 295 = .ok (.iload 6, 2) := by decide +kernel
theorem dX5_find_297 : decode cX5_find 297 = .ok (.putfield 102, 3) := by decide +kernel
theorem dX5_find_300 : decode cX5_find 300 = .ok (.iconst 0, 1) := by decide +kernel
theorem dX5_find_301 : decode cX5_find 301 = .ok (.istore 8, 2) := by decide +kernel
theorem dX5_find_303 : decode cX5_find 303 = .ok (.iload 8, 2) := by decide +kernel
theorem dX5_find_305 : decode cX5_find 305 = .ok (.aload_n 0, 1) := by decide +kernel
theorem dX5_find_306 : decode cX5_find 306 = .ok (.getfield 59, 3) := by decide +kernel
theorem dX5_find_309 : decode cX5_find 309 = .ok (.if_icmp .ge 23, 3) := by decide +kernel
theorem dX5_find_312 : decode cX5_find 312 = .ok (.aload_n 0, 1) := by decide +kernel
theorem dX5_find_313 : decode cX5_find 313 = .ok (.getfield 35, 3) := by decide +kernel
theorem dX5_find_316 : decode cX5_find 316 = .ok (.iload 8, 2) := by decide +kernel
theorem dX5_find_318 : decode cX5_find 318 = .ok (.aload_n 0, 1) := by decide +kernel
theorem dX5_find_319 : decode cX5_find 319 = .ok (.getfield 38, 3) := by decide +kernel
theorem dX5_find_322 : decode cX5_find 322 = .ok (.iload 8, 2) := by decide +kernel
theorem dX5_find_324 : decode cX5_find 324 = .ok (.iaload, 1) := by decide +kernel
theorem dX5_find_325 : decode cX5_find 325 = .ok (.iastore, 1) := by decide +kernel
theorem dX5_find_326 : decode cX5_find 326 = .ok (.iinc 8 1, 3) := by decide +kernel
theorem dX5_find_329 : decode cX5_find 329 = .ok (.goto (-26), 3) := by decide +kernel
theorem dX5_find_332 : decode cX5_find 332 = .ok (.iinc 3 1, 3) := by decide +kernel
theorem dX5_find_335 : decode cX5_find 335 = .ok (.goto (-244), 3) := by decide +kernel
theorem dX5_find_338 : decode cX5_find 338 = .ok (.return_, 1) := by decide +kernel
set_option maxRecDepth 20000 in
theorem ggX5_best_X5_isPerson : GoodIn wsX5_best wsX5_isPerson := goodIn_r _ [7, 8, 9, 10, 6, 11, 39, 40, 41, 42, 43, 44, 45, 46, 47, 48, 49, 50, 51, 52, 53, 54, 55, 56, 57, 58, 59, 60, 61, 62, 63] (by decide +kernel) (by decide +kernel)
set_option maxRecDepth 20000 in
theorem gX5_best_X5_isPerson : GoodIn wsX5_best (wsV RX5 68 RX5 yX5_isPerson wsX5_isPerson) := goodIn_app (goodIn_of _ (by decide +kernel)) ggX5_best_X5_isPerson
set_option maxRecDepth 20000 in
theorem ggX5_best_X5_find : GoodIn wsX5_best wsX5_find := goodIn_r _ [15, 16, 17, 18, 19, 20, 21, 22, 2, 23, 24, 25, 26, 27, 6, 28, 8, 29, 30, 31, 32, 33, 34, 9, 10, 11, 35, 36, 37, 38, 39, 40, 41, 42, 43, 44, 45, 46, 47, 48, 49, 50, 51, 52, 53, 54, 55, 56, 57, 58, 59, 60, 61, 62, 63] (by decide +kernel) (by decide +kernel)
set_option maxRecDepth 20000 in
theorem gX5_best_X5_find : GoodIn wsX5_best (wsV RX5 113 RX5 yX5_find wsX5_find) := goodIn_app (goodIn_of _ (by decide +kernel)) ggX5_best_X5_find
theorem dX5_best_0 : decode cX5_best 0 = .ok (.aload_n 0, 1) := by decide +kernel
theorem dX5_best_1 : decode cX5_best 1 = .ok (.iload_n 1, 1) := by decide +kernel
theorem dX5_best_2 : decode cX5_best 2 = .ok (.invokevirtual 68, 3) := by decide +kernel
theorem dX5_best_5 : decode cX5_best 5 = .ok (.ifCond .ne 6, 3) := by decide +kernel
theorem dX5_best_8 : decode cX5_best 8 = .ok (.ldc 94, 2) := by decide +kernel
theorem dX5_best_10 : decode cX5_best 10 = .ok (.ireturn, 1) := by decide +kernel
theorem dX5_best_11 : decode cX5_best 11 = .ok (.aload_n 0, 1) := by decide +kernel
theorem dX5_best_12 : decode cX5_best 12 = .ok (.iload_n 1, 1) := by decide +kernel
theorem dX5_best_13 : decode cX5_best 13 = .ok (.invokevirtual 113, 3) := by decide +kernel
theorem dX5_best_16 : decode cX5_best 16 = .ok (.aload_n 0, 1) := by decide +kernel
theorem dX5_best_17 : decode cX5_best 17 = .ok (.getfield 99, 3) := by decide +kernel
theorem dX5_best_20 : decode cX5_best 20 = .ok (.ireturn, 1) := by decide +kernel
set_option maxRecDepth 20000 in
theorem ggX5_answer_X5_isPerson : GoodIn wsX5_answer wsX5_isPerson := goodIn_r _ [6, 7, 8, 9, 5, 10, 42, 43, 44, 45, 46, 47, 48, 49, 50, 51, 52, 53, 54, 55, 56, 57, 58, 59, 60, 61, 62, 63, 64, 65, 66] (by decide +kernel) (by decide +kernel)
set_option maxRecDepth 20000 in
theorem gX5_answer_X5_isPerson : GoodIn wsX5_answer (wsV RX5 68 RX5 yX5_isPerson wsX5_isPerson) := goodIn_app (goodIn_of _ (by decide +kernel)) ggX5_answer_X5_isPerson
set_option maxRecDepth 20000 in
theorem ggX5_answer_X5_isQuestion : GoodIn wsX5_answer wsX5_isQuestion := goodIn_r _ [14, 15, 8, 9, 5, 10, 42, 43, 44, 45, 46, 47, 48, 49, 50, 51, 52, 53, 54, 55, 56, 57, 58, 59, 60, 61, 62, 63, 64, 65, 66] (by decide +kernel) (by decide +kernel)
set_option maxRecDepth 20000 in
theorem gX5_answer_X5_isQuestion : GoodIn wsX5_answer (wsV RX5 72 RX5 yX5_isQuestion wsX5_isQuestion) := goodIn_app (goodIn_of _ (by decide +kernel)) ggX5_answer_X5_isQuestion
set_option maxRecDepth 20000 in
theorem ggX5_answer_X5_find : GoodIn wsX5_answer wsX5_find := goodIn_r _ [19, 15, 20, 21, 22, 23, 24, 25, 26, 27, 1, 28, 29, 30, 5, 31, 7, 32, 33, 34, 35, 36, 37, 8, 9, 10, 38, 39, 40, 41, 42, 43, 44, 45, 46, 47, 48, 49, 50, 51, 52, 53, 54, 55, 56, 57, 58, 59, 60, 61, 62, 63, 64, 65, 66] (by decide +kernel) (by decide +kernel)
set_option maxRecDepth 20000 in
theorem gX5_answer_X5_find : GoodIn wsX5_answer (wsV RX5 113 RX5 yX5_find wsX5_find) := goodIn_app (goodIn_of _ (by decide +kernel)) ggX5_answer_X5_find
theorem dX5_answer_0 : decode cX5_answer 0 = .ok (.aload_n 0, 1) := by decide +kernel
theorem dX5_answer_1 : decode cX5_answer 1 = .ok (.iload_n 1, 1) := by decide +kernel
theorem dX5_answer_2 : decode cX5_answer 2 = .ok (.invokevirtual 68, 3) := by decide +kernel
theorem dX5_answer_5 : decode cX5_answer 5 = .ok (.ifCond .eq 11, 3) := by decide +kernel
theorem dX5_answer_8 : decode cX5_answer 8 = .ok (.aload_n 0, 1) := by decide +kernel
theorem dX5_answer_9 : decode cX5_answer 9 = .ok (.iload_n 2, 1) := by decide +kernel
theorem dX5_answer_10 : decode cX5_answer 10 = .ok (.invokevirtual 72, 3) := by decide +kernel
theorem dX5_answer_13 : decode cX5_answer 13 = .ok (.ifCond .ne 7, 3) := by decide +kernel
theorem dX5_answer_16 : decode cX5_answer 16 = .ok (.sipush (-2000), 3) := by decide +kernel
theorem dX5_answer_19 : decode cX5_answer 19 = .ok (.ireturn, 1) := by decide +kernel
theorem dX5_answer_20 : decode cX5_answer 20 = .ok (.aload_n 0, 1) := by decide +kernel
theorem dX5_answer_21 : decode cX5_answer 21 = .ok (.iload_n 1, 1) := by decide +kernel
theorem dX5_answer_22 : decode cX5_answer 22 = .ok (.invokevirtual 113, 3) := by decide +kernel
theorem dX5_answer_25 : decode cX5_answer 25 = .ok (.aload_n 0, 1) := by decide +kernel
theorem dX5_answer_26 : decode cX5_answer 26 = .ok (.getfield 35, 3) := by decide +kernel
theorem dX5_answer_29 : decode cX5_answer 29 = .ok (.iload_n 2, 1) := by decide +kernel
theorem dX5_answer_30 : decode cX5_answer 30 = .ok (.iaload, 1) := by decide +kernel
theorem dX5_answer_31 : decode cX5_answer 31 = .ok (.ireturn, 1) := by decide +kernel
theorem dX5_adopt_0 : decode cX5_adopt 0 = .ok (.iconst 0, 1) := by decide +kernel
theorem dX5_adopt_1 : decode cX5_adopt 1 = .ok (.istore_n 2, 1) := by decide +kernel
theorem dX5_adopt_2 : decode cX5_adopt 2 = .ok (.iload_n 2, 1) := by decide +kernel
theorem dX5_adopt_3 : decode cX5_adopt 3 = .ok (.aload_n 0, 1) := by decide +kernel
theorem dX5_adopt_4 : decode cX5_adopt 4 = .ok (.getfield 59, 3) := by decide +kernel
theorem dX5_adopt_7 : decode cX5_adopt 7 = .ok (.if_icmp .ge 26, 3) := by decide +kernel
theorem dX5_adopt_10 : decode cX5_adopt 10 = .ok (.aload_n 0, 1) := by decide +kernel
theorem dX5_adopt_11 : decode cX5_adopt 11 = .ok (.getfield 17, 3) := by decide +kernel
theorem dX5_adopt_14 : decode cX5_adopt 14 = .ok (.bipush 6, 2) := by decide +kernel
theorem dX5_adopt_16 : decode cX5_adopt 16 = .ok (.iload_n 1, 1) := by decide +kernel
theorem dX5_adopt_17 : decode cX5_adopt 17 = .ok (.imul, 1) := by decide +kernel
theorem dX5_adopt_18 : decode cX5_adopt 18 = .ok (.iload_n 2, 1) := by decide +kernel
theorem dX5_adopt_19 : decode cX5_adopt 19 = .ok (.iadd, 1) := by decide +kernel
theorem dX5_adopt_20 : decode cX5_adopt 20 = .ok (.aload_n 0, 1) := by decide +kernel
theorem dX5_adopt_21 : decode cX5_adopt 21 = .ok (.getfield 35, 3) := by decide +kernel
theorem dX5_adopt_24 : decode cX5_adopt 24 = .ok (.iload_n 2, 1) := by decide +kernel
theorem dX5_adopt_25 : decode cX5_adopt 25 = .ok (.iaload, 1) := by decide +kernel
theorem dX5_adopt_26 : decode cX5_adopt 26 = .ok (.iastore, 1) := by decide +kernel
theorem dX5_adopt_27 : decode cX5_adopt 27 = .ok (.iinc 2 1, 3) := by decide +kernel
theorem dX5_adopt_30 : decode cX5_adopt 30 = .ok (.goto (-28), 3) := by decide +kernel
theorem dX5_adopt_33 : decode cX5_adopt 33 = .ok (.return_, 1) := by decide +kernel
set_option maxRecDepth 20000 in
theorem ggX5_take_X5_isPerson : GoodIn wsX5_take wsX5_isPerson := goodIn_r _ [6, 7, 8, 9, 5, 10, 46, 47, 48, 49, 50, 51, 52, 53, 54, 55, 56, 57, 58, 59, 60, 61, 62, 63, 64, 65, 66, 67, 68, 69, 70] (by decide +kernel) (by decide +kernel)
set_option maxRecDepth 20000 in
theorem gX5_take_X5_isPerson : GoodIn wsX5_take (wsV RX5 68 RX5 yX5_isPerson wsX5_isPerson) := goodIn_app (goodIn_of _ (by decide +kernel)) ggX5_take_X5_isPerson
set_option maxRecDepth 20000 in
theorem ggX5_take_X5_find : GoodIn wsX5_take wsX5_find := goodIn_r _ [14, 15, 16, 17, 18, 19, 20, 21, 22, 23, 24, 25, 26, 27, 5, 28, 7, 1, 29, 30, 31, 32, 33, 8, 9, 10, 34, 35, 36, 37, 46, 47, 48, 49, 50, 51, 52, 53, 54, 55, 56, 57, 58, 59, 60, 61, 62, 63, 64, 65, 66, 67, 68, 69, 70] (by decide +kernel) (by decide +kernel)
set_option maxRecDepth 20000 in
theorem gX5_take_X5_find : GoodIn wsX5_take (wsV RX5 113 RX5 yX5_find wsX5_find) := goodIn_app (goodIn_of _ (by decide +kernel)) ggX5_take_X5_find
set_option maxRecDepth 20000 in
theorem ggX5_take_X5_adopt : GoodIn wsX5_take wsX5_adopt := goodIn_r _ [41, 15, 29, 24, 46, 47, 48, 49, 50, 51, 52, 53, 54, 55, 56, 57, 58, 59, 60, 61, 62, 63, 64, 65, 66, 67, 68, 69, 70] (by decide +kernel) (by decide +kernel)
set_option maxRecDepth 20000 in
theorem gX5_take_X5_adopt : GoodIn wsX5_take (wsV RX5 117 RX5 yX5_adopt wsX5_adopt) := goodIn_app (goodIn_of _ (by decide +kernel)) ggX5_take_X5_adopt
set_option maxRecDepth 20000 in
theorem ggX5_take_X5_costOf : GoodIn wsX5_take wsX5_costOf := goodIn_r _ [45, 15, 29, 46, 47, 48, 49, 50, 51, 52, 53, 54, 55, 56, 57, 58, 59, 60, 61, 62, 63, 64, 65, 66, 67, 68, 69, 70] (by decide +kernel) (by decide +kernel)
set_option maxRecDepth 20000 in
theorem gX5_take_X5_costOf : GoodIn wsX5_take (wsV RX5 75 RX5 yX5_costOf wsX5_costOf) := goodIn_app (goodIn_of _ (by decide +kernel)) ggX5_take_X5_costOf
theorem dX5_take_0 : decode cX5_take 0 = .ok (.aload_n 0, 1) := by decide +kernel
theorem dX5_take_1 : decode cX5_take 1 = .ok (.iload_n 1, 1) := by decide +kernel
theorem dX5_take_2 : decode cX5_take 2 = .ok (.invokevirtual 68, 3) := by decide +kernel
theorem dX5_take_5 : decode cX5_take 5 = .ok (.ifCond .ne 6, 3) := by decide +kernel
theorem dX5_take_8 : decode cX5_take 8 = .ok (.bipush (-101), 2) := by decide +kernel
theorem dX5_take_10 : decode cX5_take 10 = .ok (.ireturn, 1) := by decide +kernel
theorem dX5_take_11 : decode cX5_take 11 = .ok (.aload_n 0, 1) := by decide +kernel
theorem dX5_take_12 : decode cX5_take 12 = .ok (.getfield 13, 3) := by decide +kernel
theorem dX5_take_15 : decode cX5_take 15 = .ok (.iload_n 1, 1) := by decide +kernel
theorem dX5_take_16 : decode cX5_take 16 = .ok (.baload, 1) := by decide +kernel
theorem dX5_take_17 : decode cX5_take 17 = .ok (.ifCond .ne 6, 3) := by decide +kernel
theorem dX5_take_20 : decode cX5_take 20 = .ok (.bipush (-103), 2) := by decide +kernel
theorem dX5_take_22 : decode cX5_take 22 = .ok (.ireturn, 1) := by decide +kernel
theorem dX5_take_23 : decode cX5_take 23 = .ok (.aload_n 0, 1) := by decide +kernel
theorem dX5_take_24 : decode cX5_take 24 = .ok (.iload_n 1, 1) := by decide +kernel
theorem dX5_take_25 : decode cX5_take 25 = .ok (.invokevirtual 113, 3) := by decide +kernel
theorem dX5_take_28 : decode cX5_take 28 = .ok (.aload_n 0, 1) := by decide +kernel
theorem dX5_take_29 : decode cX5_take 29 = .ok (.iload_n 1, 1) := by decide +kernel
theorem dX5_take_30 : decode cX5_take 30 = .ok (.invokevirtual 117, 3) := by decide +kernel
theorem dX5_take_33 : decode cX5_take 33 = .ok (.aload_n 0, 1) := by decide +kernel
theorem dX5_take_34 : decode cX5_take 34 = .ok (.iload_n 1, 1) := by decide +kernel
theorem dX5_take_35 : decode cX5_take 35 = .ok (.invokevirtual 75, 3) := by decide +kernel
theorem dX5_take_38 : decode cX5_take 38 = .ok (.ireturn, 1) := by decide +kernel
theorem dX5_isAsBehind_0 : decode cX5_isAsBehind 0 = .ok (.iconst 1, 1) := by decide +kernel
theorem dX5_isAsBehind_1 : decode cX5_isAsBehind 1 = .ok (.istore_n 2, 1) := by decide +kernel
theorem dX5_isAsBehind_2 : decode cX5_isAsBehind 2 = .ok (.iconst 0, 1) := by decide +kernel
theorem dX5_isAsBehind_3 : decode cX5_isAsBehind 3 = .ok (.istore_n 3, 1) := by decide +kernel
theorem dX5_isAsBehind_4 : decode cX5_isAsBehind 4 = .ok (.iload_n 3, 1) := by decide +kernel
theorem dX5_isAsBehind_5 : decode cX5_isAsBehind 5 = .ok (.bipush 72, 2) := by decide +kernel
theorem dX5_isAsBehind_7 : decode cX5_isAsBehind 7 = .ok (.if_icmp .ge 39, 3) := by decide +kernel
theorem dX5_isAsBehind_10 : decode cX5_isAsBehind 10 = .ok (.iload_n 2, 1) := by decide +kernel
theorem dX5_isAsBehind_11 : decode cX5_isAsBehind 11 = .ok (.ifCond .eq 27, 3) := by decide +kernel
theorem dX5_isAsBehind_14 : decode cX5_isAsBehind 14 = .ok (.aload_n 0, 1) := by decide +kernel
theorem dX5_isAsBehind_15 : decode cX5_isAsBehind 15 = .ok (.getfield 41, 3) := by decide +kernel
theorem dX5_isAsBehind_18 : decode cX5_isAsBehind 18 = .ok (.bipush 72, 2) := by decide +kernel
theorem dX5_isAsBehind_20 : decode cX5_isAsBehind 20 = .ok (.iload_n 1, 1) := by decide +kernel
theorem dX5_isAsBehind_21 : decode cX5_isAsBehind 21 = .ok (.imul, 1) := by decide +kernel
theorem dX5_isAsBehind_22 : decode cX5_isAsBehind 22 = .ok (.iload_n 3, 1) := by decide +kernel
theorem dX5_isAsBehind_23 : decode cX5_isAsBehind 23 = .ok (.iadd, 1) := by decide +kernel
theorem dX5_isAsBehind_24 : decode cX5_isAsBehind 24 = .ok (.iaload, 1) := by decide +kernel
theorem dX5_isAsBehind_25 : decode cX5_isAsBehind 25 = .ok (.aload_n 0, 1) := by decide +kernel
theorem dX5_isAsBehind_26 : decode cX5_isAsBehind 26 = .ok (.getfield 17, 3) := by decide +kernel
theorem dX5_isAsBehind_29 : decode cX5_isAsBehind 29 = .ok (.iload_n 3, 1) := by decide +kernel
theorem dX5_isAsBehind_30 : decode cX5_isAsBehind 30 = .ok (.iaload, 1) := by decide +kernel
theorem dX5_isAsBehind_31 : decode cX5_isAsBehind 31 = .ok (.if_icmp .ne 7, 3) := by decide +kernel
theorem dX5_isAsBehind_34 : decode cX5_isAsBehind 34 = .ok (.iconst 1, 1) := by decide +kernel
theorem dX5_isAsBehind_35 : decode cX5_isAsBehind 35 = .ok (.goto 4, 3) := by decide +kernel
theorem dX5_isAsBehind_38 : decode cX5_isAsBehind 38 = .ok (.iconst 0, 1) := by decide +kernel
theorem dX5_isAsBehind_39 : decode cX5_isAsBehind 39 = .ok (.istore_n 2, 1) := by decide +kernel
theorem dX5_isAsBehind_40 : decode cX5_isAsBehind 40 = .ok (.iinc 3 1, 3) := by decide +kernel
theorem dX5_isAsBehind_43 : decode cX5_isAsBehind 43 = .ok (.goto (-39), 3) := by decide +kernel
theorem dX5_isAsBehind_46 : decode cX5_isAsBehind 46 = .ok (.iload_n 2, 1) := by decide +kernel
theorem dX5_isAsBehind_47 : decode cX5_isAsBehind 47 = .ok (.ireturn, 1) := by decide +kernel
theorem dX5_keep_0 : decode cX5_keep 0 = .ok (.iconst 0, 1) := by decide +kernel
theorem dX5_keep_1 : decode cX5_keep 1 = .ok (.istore_n 2, 1) := by decide +kernel
theorem dX5_keep_2 : decode cX5_keep 2 = .ok (.iload_n 2, 1) := by decide +kernel
theorem dX5_keep_3 : decode cX5_keep 3 = .ok (.bipush 72, 2) := by decide +kernel
theorem dX5_keep_5 : decode cX5_keep 5 = .ok (.if_icmp .ge 26, 3) := by decide +kernel
theorem dX5_keep_8 : decode cX5_keep 8 = .ok (.aload_n 0, 1) := by decide +kernel
theorem dX5_keep_9 : decode cX5_keep 9 = .ok (.getfield 41, 3) := by decide +kernel
theorem dX5_keep_12 : decode cX5_keep 12 = .ok (.bipush 72, 2) := by decide +kernel
theorem dX5_keep_14 : decode cX5_keep 14 = .ok (.iload_n 1, 1) := by decide +kernel
theorem dX5_keep_15 : decode cX5_keep 15 = .ok (.imul, 1) := by decide +kernel
theorem dX5_keep_16 : decode cX5_keep 16 = .ok (.iload_n 2, 1) := by decide +kernel
theorem dX5_keep_17 : decode cX5_keep 17 = .ok (.iadd, 1) := by decide +kernel
theorem dX5_keep_18 : decode cX5_keep 18 = .ok (.aload_n 0, 1) := by decide +kernel
theorem dX5_keep_19 : decode cX5_keep 19 = .ok (.getfield 17, 3) := by decide +kernel
theorem dX5_keep_22 : decode cX5_keep 22 = .ok (.iload_n 2, 1) := by decide +kernel
theorem dX5_keep_23 : decode cX5_keep 23 = .ok (.iaload, 1) := by decide +kernel
theorem dX5_keep_24 : decode cX5_keep 24 = .ok (.iastore, 1) := by decide +kernel
theorem dX5_keep_25 : decode cX5_keep 25 = .ok (.iinc 2 1, 3) := by decide +kernel
theorem dX5_keep_28 : decode cX5_keep 28 = .ok (.goto (-26), 3) := by decide +kernel
theorem dX5_keep_31 : decode cX5_keep 31 = .ok (.return_, 1) := by decide +kernel
set_option maxRecDepth 20000 in
theorem ggX5_play_X5_in : GoodIn wsX5_play wsX5_in := goodIn_r _ [11] (by decide +kernel) (by decide +kernel)
set_option maxRecDepth 20000 in
theorem gX5_play_X5_in : GoodIn wsX5_play (va_wsS RX5 55 yX5_in wsX5_in) := goodIn_app (goodIn_of _ (by decide +kernel)) ggX5_play_X5_in
set_option maxRecDepth 20000 in
theorem ggX5_play_X5_keep : GoodIn wsX5_play wsX5_keep := goodIn_r _ [15, 16, 17, 58, 59, 60, 61, 62, 63, 64, 65, 66, 67, 68, 69, 70, 71, 72, 73, 74, 75, 76, 77, 78, 79, 80, 81, 82] (by decide +kernel) (by decide +kernel)
set_option maxRecDepth 20000 in
theorem gX5_play_X5_keep : GoodIn wsX5_play (wsV RX5 126 RX5 yX5_keep wsX5_keep) := goodIn_app (goodIn_of _ (by decide +kernel)) ggX5_play_X5_keep
set_option maxRecDepth 20000 in
theorem ggX5_play_X5_find : GoodIn wsX5_play wsX5_find := goodIn_r _ [21, 22, 23, 24, 25, 26, 27, 28, 6, 29, 30, 31, 32, 33, 10, 34, 4, 5, 17, 35, 36, 37, 38, 8, 9, 11, 39, 40, 41, 42, 58, 59, 60, 61, 62, 63, 64, 65, 66, 67, 68, 69, 70, 71, 72, 73, 74, 75, 76, 77, 78, 79, 80, 81, 82] (by decide +kernel) (by decide +kernel)
set_option maxRecDepth 20000 in
theorem gX5_play_X5_find : GoodIn wsX5_play (wsV RX5 113 RX5 yX5_find wsX5_find) := goodIn_app (goodIn_of _ (by decide +kernel)) ggX5_play_X5_find
set_option maxRecDepth 20000 in
theorem ggX5_play_X5_gainOf : GoodIn wsX5_play wsX5_gainOf := goodIn_r _ [46, 22, 27, 31, 32, 33, 10, 34, 4, 5, 17, 47, 48, 49, 58, 59, 60, 61, 62, 63, 64, 65, 66, 67, 68, 69, 70, 71, 72, 73, 74, 75, 76, 77, 78, 79, 80, 81, 82] (by decide +kernel) (by decide +kernel)
set_option maxRecDepth 20000 in
theorem gX5_play_X5_gainOf : GoodIn wsX5_play (wsV RX5 91 RX5 yX5_gainOf wsX5_gainOf) := goodIn_app (goodIn_of _ (by decide +kernel)) ggX5_play_X5_gainOf
set_option maxRecDepth 20000 in
theorem ggX5_play_X5_adopt : GoodIn wsX5_play wsX5_adopt := goodIn_r _ [53, 22, 17, 30, 58, 59, 60, 61, 62, 63, 64, 65, 66, 67, 68, 69, 70, 71, 72, 73, 74, 75, 76, 77, 78, 79, 80, 81, 82] (by decide +kernel) (by decide +kernel)
set_option maxRecDepth 20000 in
theorem gX5_play_X5_adopt : GoodIn wsX5_play (wsV RX5 117 RX5 yX5_adopt wsX5_adopt) := goodIn_app (goodIn_of _ (by decide +kernel)) ggX5_play_X5_adopt
set_option maxRecDepth 20000 in
theorem ggX5_play_X5_isAsBehind : GoodIn wsX5_play wsX5_isAsBehind := goodIn_r _ [57, 16, 17, 58, 59, 60, 61, 62, 63, 64, 65, 66, 67, 68, 69, 70, 71, 72, 73, 74, 75, 76, 77, 78, 79, 80, 81, 82] (by decide +kernel) (by decide +kernel)
set_option maxRecDepth 20000 in
theorem gX5_play_X5_isAsBehind : GoodIn wsX5_play (wsV RX5 135 RX5 yX5_isAsBehind wsX5_isAsBehind) := goodIn_app (goodIn_of _ (by decide +kernel)) ggX5_play_X5_isAsBehind
theorem dX5_play_0 : decode cX5_play 0 = .ok (.iload_n 1, 1) := by decide +kernel
theorem dX5_play_1 : decode cX5_play 1 = .ok (.iconst 1, 1) := by decide +kernel
theorem dX5_play_2 : decode cX5_play 2 = .ok (.bipush 30, 2) := by decide +kernel
theorem dX5_play_4 : decode cX5_play 4 = .ok (.invokestatic 55, 3) := by decide +kernel
theorem dX5_play_7 : decode cX5_play 7 = .ok (.ifCond .ne 6, 3) := by decide +kernel
theorem dX5_play_10 : decode cX5_play 10 = .ok (.bipush (-102), 2) := by decide +kernel
theorem dX5_play_12 : decode cX5_play 12 = .ok (.ireturn, 1) := by decide +kernel
theorem dX5_play_13 : decode cX5_play 13 = .ok (.aload_n 0, 1) := by decide +kernel
theorem dX5_play_14 : decode cX5_play 14 = .ok (.iconst 0, 1) := by decide +kernel
theorem dX5_play_15 : decode cX5_play 15 = .ok (.putfield 120, 3) := by decide +kernel
theorem dX5_play_18 : decode cX5_play 18 = .ok (.aload_n 0, 1) := by decide +kernel
theorem dX5_play_19 : decode cX5_play 19 = .ok (.iconst 0, 1) := by decide +kernel
theorem dX5_play_20 : decode cX5_play 20 = .ok (.putfield 123, 3) := by decide +kernel
theorem dX5_play_23 : decode cX5_play 23 = .ok (.aload_n 0, 1) := by decide +kernel
theorem dX5_play_24 : decode cX5_play 24 = .ok (.iconst 0, 1) := by decide +kernel
theorem dX5_play_25 : decode cX5_play 25 = .ok (.invokevirtual 126, 3) := by decide +kernel
theorem dX5_play_28 : decode cX5_play 28 = .ok (.iconst 0, 1) := by decide +kernel
theorem dX5_play_29 : decode cX5_play 29 = .ok (.istore_n 2, 1) := by decide +kernel
theorem dX5_play_30 : decode cX5_play 30 = .ok (.iload_n 2, 1) := by decide +kernel
theorem dX5_play_31 : decode cX5_play 31 = .ok (.iload_n 1, 1) := by decide +kernel
theorem dX5_play_32 : decode cX5_play 32 = .ok (.if_icmp .ge 152, 3) := by decide +kernel
theorem dX5_play_35 : decode cX5_play 35 = .ok (.aload_n 0, 1) := by decide +kernel
theorem dX5_play_36 : decode cX5_play 36 = .ok (.getfield 120, 3) := by decide +kernel
theorem dX5_play_39 : decode cX5_play 39 = .ok (.ifCond .ne 145, 3) := by decide +kernel
theorem dX5_play_42 : decode cX5_play 42 = .ok (.iinc 2 1, 3) := by decide +kernel
theorem dX5_play_45 : decode cX5_play 45 = .ok (.aload_n 0, 1) := by decide +kernel
theorem dX5_play_46 : decode cX5_play 46 = .ok (.dup, 1) := by decide +kernel
theorem dX5_play_47 : decode cX5_play 47 = .ok (.getfield 129, 3) := by decide +kernel
theorem dX5_play_50 : decode cX5_play 50 = .ok (.iconst 1, 1) := by decide +kernel
theorem dX5_play_51 : decode cX5_play 51 = .ok (.iadd, 1) := by decide +kernel
theorem dX5_play_52 : decode cX5_play 52 = .ok (.putfield 129, 3) := by decide +kernel
theorem dX5_play_55 : decode cX5_play 55 = .ok (.iconst 0, 1) := by decide +kernel
theorem dX5_play_56 : decode cX5_play 56 = .ok (.istore_n 3, 1) := by decide +kernel
theorem dX5_play_57 : decode cX5_play 57 = .ok (.iconst 0, 1) := by decide +kernel
theorem dX5_play_58 : decode cX5_play 58 = .ok (.istore 4, 2) := by decide +kernel
theorem dX5_play_60 : decode cX5_play 60 = .ok (.iload 4, 2) := by decide +kernel
theorem dX5_play_62 : decode cX5_play 62 = .ok (.aload_n 0, 1) := by decide +kernel
theorem dX5_play_63 : decode cX5_play 63 = .ok (.getfield 51, 3) := by decide +kernel
theorem dX5_play_66 : decode cX5_play 66 = .ok (.if_icmp .ge 56, 3) := by decide +kernel
theorem dX5_play_69 : decode cX5_play 69 = .ok (.aload_n 0, 1) := by decide +kernel
theorem dX5_play_70 : decode cX5_play 70 = .ok (.getfield 13, 3) := by decide +kernel
theorem dX5_play_73 : decode cX5_play 73 = .ok (.iload 4, 2) := by decide +kernel
theorem dX5_play_75 : decode cX5_play 75 = .ok (.baload, 1) := by decide +kernel
theorem dX5_play_76 : decode cX5_play 76 = .ok (.ifCond .eq 40, 3) := by decide +kernel
theorem dX5_play_79 : decode cX5_play 79 = .ok (.aload_n 0, 1) := by decide +kernel
theorem dX5_play_80 : decode cX5_play 80 = .ok (.iload 4, 2) := by decide +kernel
theorem dX5_play_82 : decode cX5_play 82 = .ok (.invokevirtual 113, 3) := by decide +kernel
theorem dX5_play_85 : decode cX5_play 85 = .ok (.aload_n 0, 1) := by decide +kernel
theorem dX5_play_86 : decode cX5_play 86 = .ok (.getfield 99, 3) := by decide +kernel
theorem dX5_play_89 : decode cX5_play 89 = .ok (.aload_n 0, 1) := by decide +kernel
theorem dX5_play_90 : decode cX5_play 90 = .ok (.iload 4, 2) := by decide +kernel
theorem dX5_play_92 : decode cX5_play 92 = .ok (.invokevirtual 91, 3) := by decide +kernel
theorem dX5_play_95 : decode cX5_play 95 = .ok (.if_icmp .le 21, 3) := by decide +kernel
theorem dX5_play_98 : decode cX5_play 98 = .ok (.aload_n 0, 1) := by decide +kernel
theorem dX5_play_99 : decode cX5_play 99 = .ok (.iload 4, 2) := by decide +kernel
theorem dX5_play_101 : decode cX5_play 101 = .ok (.invokevirtual 117, 3) := by decide +kernel
theorem dX5_play_104 : decode cX5_play 104 = .ok (.aload_n 0, 1) := by decide +kernel
theorem dX5_play_105 : decode cX5_play 105 = .ok (.dup, 1) := by decide +kernel
theorem dX5_play_106 : decode cX5_play 106 = .ok (.getfield 132, 3) := by decide +kernel
theorem dX5_play_109 : decode cX5_play 109 = .ok (.iconst 1, 1) := by decide +kernel
theorem dX5_play_110 : decode cX5_play 110 = .ok (.iadd, 1) := by decide +kernel
theorem dX5_play_111 : decode cX5_play 111 = .ok (.putfield 132, 3) := by decide +kernel
theorem dX5_play_114 : decode cX5_play 114 = .ok (.iconst 1, 1) := by decide +kernel
theorem dX5_play_115 : decode cX5_play 115 = .ok (.istore_n 3, 1) := by decide +kernel
theorem dX5_play_116 : decode cX5_play 116 = .ok (.iinc 4 1, 3) := by decide +kernel
theorem dX5_play_119 : decode cX5_play 119 = .ok (.goto (-59), 3) := by decide +kernel
theorem dX5_play_122 : decode cX5_play 122 = .ok (.iload_n 3, 1) := by decide +kernel
theorem dX5_play_123 : decode cX5_play 123 = .ok (.ifCond .ne 8, 3) := by decide +kernel
theorem dX5_play_126 : decode cX5_play 126 = .ok (.aload_n 0, 1) := by decide +kernel
theorem dX5_play_127 : decode cX5_play 127 = .ok (.iconst 1, 1) := by decide +kernel
theorem dX5_play_128 : decode cX5_play 128 = .ok (.putfield 120, 3) := by decide +kernel
theorem dX5_play_131 : decode cX5_play 131 = .ok (.iload_n 2, 1) := by decide +kernel
theorem dX5_play_132 : decode cX5_play 132 = .ok (.iconst 1, 1) := by decide +kernel
theorem dX5_play_133 : decode cX5_play 133 = .ok (.isub, 1) := by decide +kernel
theorem dX5_play_134 : decode cX5_play 134 = .ok (.istore 4, 2) := by decide +kernel
theorem dX5_play_136 : decode cX5_play 136 = .ok (.iload 4, 2) := by decide +kernel
theorem dX5_play_138 : decode cX5_play 138 = .ok (.ifCond .lt 38, 3) := by decide +kernel
theorem dX5_play_141 : decode cX5_play 141 = .ok (.aload_n 0, 1) := by decide +kernel
theorem dX5_play_142 : decode cX5_play 142 = .ok (.getfield 120, 3) := by decide +kernel
theorem dX5_play_145 : decode cX5_play 145 = .ok (.ifCond .ne 31, 3) := by decide +kernel
theorem dX5_play_148 : decode cX5_play 148 = .ok (.aload_n 0, 1) := by decide +kernel
theorem dX5_play_149 : decode cX5_play 149 = .ok (.iload 4, 2) := by decide +kernel
theorem dX5_play_151 : decode cX5_play 151 = .ok (.invokevirtual 135, 3) := by decide +kernel
theorem dX5_play_154 : decode cX5_play 154 = .ok (.ifCond .eq 16, 3) := by decide +kernel
theorem dX5_play_157 : decode cX5_play 157 = .ok (.aload_n 0, 1) := by decide +kernel
theorem dX5_play_158 : decode cX5_play 158 = .ok (.iconst 2, 1) := by decide +kernel
theorem dX5_play_159 : decode cX5_play 159 = .ok (.putfield 120, 3) := by decide +kernel
theorem dX5_play_162 : decode cX5_play 162 = .ok (.aload_n 0, 1) := by decide +kernel
theorem dX5_play_163 : decode cX5_play 163 = .ok (.iload_n 2, 1) := by decide +kernel
theorem dX5_play_164 : decode cX5_play 164 = .ok (.iload 4, 2) := by decide +kernel
theorem dX5_play_166 : decode cX5_play 166 = .ok (.isub, 1) := by decide +kernel
theorem dX5_play_167 : decode cX5_play 167 = .ok (.putfield 123, 3) := by decide +kernel
theorem dX5_play_170 : decode cX5_play 170 = .ok (.iinc 4 (-1), 3) := by decide +kernel
theorem dX5_play_173 : decode cX5_play 173 = .ok (.goto (-37), 3) := by decide +kernel
theorem dX5_play_176 : decode cX5_play 176 = .ok (.aload_n 0, 1) := by decide +kernel
theorem dX5_play_177 : decode cX5_play 177 = .ok (.iload_n 2, 1) := by decide +kernel
theorem dX5_play_178 : decode cX5_play 178 = .ok (.invokevirtual 126, 3) := by decide +kernel
theorem dX5_play_181 : decode cX5_play 181 = .ok (.goto (-151), 3) := by decide +kernel
theorem dX5_play_184 : decode cX5_play 184 = .ok (.iload_n 2, 1) := by decide +kernel
theorem dX5_play_185 : decode cX5_play 185 = .ok (.ireturn, 1) := by decide +kernel
theorem dX5_ended_0 : decode cX5_ended 0 = .ok (.aload_n 0, 1) := by decide +kernel
theorem dX5_ended_1 : decode cX5_ended 1 = .ok (.getfield 120, 3) := by decide +kernel
theorem dX5_ended_4 : decode cX5_ended 4 = .ok (.ireturn, 1) := by decide +kernel
theorem dX5_ring_0 : decode cX5_ring 0 = .ok (.aload_n 0, 1) := by decide +kernel
theorem dX5_ring_1 : decode cX5_ring 1 = .ok (.getfield 123, 3) := by decide +kernel
theorem dX5_ring_4 : decode cX5_ring 4 = .ok (.ireturn, 1) := by decide +kernel
set_option maxRecDepth 20000 in
theorem ggX5_gift_X5_isPerson : GoodIn wsX5_gift wsX5_isPerson := goodIn_r _ [7, 8, 9, 10, 6, 11, 17, 18, 19, 20, 21, 22, 23, 24, 25, 26, 27, 28, 29, 30, 31, 32, 33, 34, 35, 36, 37, 38, 39, 40, 41] (by decide +kernel) (by decide +kernel)
set_option maxRecDepth 20000 in
theorem gX5_gift_X5_isPerson : GoodIn wsX5_gift (wsV RX5 68 RX5 yX5_isPerson wsX5_isPerson) := goodIn_app (goodIn_of _ (by decide +kernel)) ggX5_gift_X5_isPerson
set_option maxRecDepth 20000 in
theorem ggX5_gift_X5_isProject : GoodIn wsX5_gift wsX5_isProject := goodIn_r _ [15, 16, 9, 10, 6, 11, 17, 18, 19, 20, 21, 22, 23, 24, 25, 26, 27, 28, 29, 30, 31, 32, 33, 34, 35, 36, 37, 38, 39, 40, 41] (by decide +kernel) (by decide +kernel)
set_option maxRecDepth 20000 in
theorem gX5_gift_X5_isProject : GoodIn wsX5_gift (wsV RX5 138 RX5 yX5_isProject wsX5_isProject) := goodIn_app (goodIn_of _ (by decide +kernel)) ggX5_gift_X5_isProject
set_option maxRecDepth 20000 in
theorem ggX5_gift_X5_in : GoodIn wsX5_gift wsX5_in := goodIn_r _ [11] (by decide +kernel) (by decide +kernel)
set_option maxRecDepth 20000 in
theorem gX5_gift_X5_in : GoodIn wsX5_gift (va_wsS RX5 55 yX5_in wsX5_in) := goodIn_app (goodIn_of _ (by decide +kernel)) ggX5_gift_X5_in
theorem dX5_gift_0 : decode cX5_gift 0 = .ok (.aload_n 0, 1) := by decide +kernel
theorem dX5_gift_1 : decode cX5_gift 1 = .ok (.iload_n 1, 1) := by decide +kernel
theorem dX5_gift_2 : decode cX5_gift 2 = .ok (.invokevirtual 68, 3) := by decide +kernel
theorem dX5_gift_5 : decode cX5_gift 5 = .ok (.ifCond .eq 11, 3) := by decide +kernel
theorem dX5_gift_8 : decode cX5_gift 8 = .ok (.aload_n 0, 1) := by decide +kernel
theorem dX5_gift_9 : decode cX5_gift 9 = .ok (.iload_n 2, 1) := by decide +kernel
theorem dX5_gift_10 : decode cX5_gift 10 = .ok (.invokevirtual 138, 3) := by decide +kernel
theorem dX5_gift_13 : decode cX5_gift 13 = .ok (.ifCond .ne 6, 3) := by decide +kernel
theorem dX5_gift_16 : decode cX5_gift 16 = .ok (.bipush (-101), 2) := by decide +kernel
theorem dX5_gift_18 : decode cX5_gift 18 = .ok (.ireturn, 1) := by decide +kernel
theorem dX5_gift_19 : decode cX5_gift 19 = .ok (.iload_n 3, 1) := by decide +kernel
theorem dX5_gift_20 : decode cX5_gift 20 = .ok (.iconst 0, 1) := by decide +kernel
theorem dX5_gift_21 : decode cX5_gift 21 = .ok (.ldc 141, 2) := by decide +kernel
theorem dX5_gift_23 : decode cX5_gift 23 = .ok (.invokestatic 55, 3) := by decide +kernel
theorem dX5_gift_26 : decode cX5_gift 26 = .ok (.ifCond .ne 6, 3) := by decide +kernel
theorem dX5_gift_29 : decode cX5_gift 29 = .ok (.bipush (-102), 2) := by decide +kernel
theorem dX5_gift_31 : decode cX5_gift 31 = .ok (.ireturn, 1) := by decide +kernel
theorem dX5_gift_32 : decode cX5_gift 32 = .ok (.aload_n 0, 1) := by decide +kernel
theorem dX5_gift_33 : decode cX5_gift 33 = .ok (.getfield 23, 3) := by decide +kernel
theorem dX5_gift_36 : decode cX5_gift 36 = .ok (.bipush 6, 2) := by decide +kernel
theorem dX5_gift_38 : decode cX5_gift 38 = .ok (.iload_n 1, 1) := by decide +kernel
theorem dX5_gift_39 : decode cX5_gift 39 = .ok (.imul, 1) := by decide +kernel
theorem dX5_gift_40 : decode cX5_gift 40 = .ok (.iload_n 2, 1) := by decide +kernel
theorem dX5_gift_41 : decode cX5_gift 41 = .ok (.iadd, 1) := by decide +kernel
theorem dX5_gift_42 : decode cX5_gift 42 = .ok (.iaload, 1) := by decide +kernel
theorem dX5_gift_43 : decode cX5_gift 43 = .ok (.istore 4, 2) := by decide +kernel
theorem dX5_gift_45 : decode cX5_gift 45 = .ok (.aload_n 0, 1) := by decide +kernel
theorem dX5_gift_46 : decode cX5_gift 46 = .ok (.getfield 23, 3) := by decide +kernel
theorem dX5_gift_49 : decode cX5_gift 49 = .ok (.bipush 6, 2) := by decide +kernel
theorem dX5_gift_51 : decode cX5_gift 51 = .ok (.iload_n 1, 1) := by decide +kernel
theorem dX5_gift_52 : decode cX5_gift 52 = .ok (.imul, 1) := by decide +kernel
theorem dX5_gift_53 : decode cX5_gift 53 = .ok (.iload_n 2, 1) := by decide +kernel
theorem dX5_gift_54 : decode cX5_gift 54 = .ok (.iadd, 1) := by decide +kernel
theorem dX5_gift_55 : decode cX5_gift 55 = .ok (.iload_n 3, 1) := by decide +kernel
theorem dX5_gift_56 : decode cX5_gift 56 = .ok (.iastore, 1) := by decide +kernel
theorem dX5_gift_57 : decode cX5_gift 57 = .ok (.iload 4, 2) := by decide +kernel
theorem dX5_gift_59 : decode cX5_gift 59 = .ok (.ireturn, 1) := by decide +kernel
set_option maxRecDepth 20000 in
theorem ggX5_bond_X5_isPerson : GoodIn wsX5_bond wsX5_isPerson := goodIn_r _ [6, 7, 8, 9, 5, 10, 11, 12, 13, 14, 15, 16, 17, 18, 19, 20, 21, 22, 23, 24, 25, 26, 27, 28, 29, 30, 31, 32, 33, 34, 35] (by decide +kernel) (by decide +kernel)
set_option maxRecDepth 20000 in
theorem gX5_bond_X5_isPerson : GoodIn wsX5_bond (wsV RX5 68 RX5 yX5_isPerson wsX5_isPerson) := goodIn_app (goodIn_of _ (by decide +kernel)) ggX5_bond_X5_isPerson
set_option maxRecDepth 20000 in
theorem ggX5_bond_X5_in : GoodIn wsX5_bond wsX5_in := goodIn_r _ [10] (by decide +kernel) (by decide +kernel)
set_option maxRecDepth 20000 in
theorem gX5_bond_X5_in : GoodIn wsX5_bond (va_wsS RX5 55 yX5_in wsX5_in) := goodIn_app (goodIn_of _ (by decide +kernel)) ggX5_bond_X5_in
theorem dX5_bond_0 : decode cX5_bond 0 = .ok (.aload_n 0, 1) := by decide +kernel
theorem dX5_bond_1 : decode cX5_bond 1 = .ok (.iload_n 1, 1) := by decide +kernel
theorem dX5_bond_2 : decode cX5_bond 2 = .ok (.invokevirtual 68, 3) := by decide +kernel
theorem dX5_bond_5 : decode cX5_bond 5 = .ok (.ifCond .eq 11, 3) := by decide +kernel
theorem dX5_bond_8 : decode cX5_bond 8 = .ok (.aload_n 0, 1) := by decide +kernel
theorem dX5_bond_9 : decode cX5_bond 9 = .ok (.iload_n 2, 1) := by decide +kernel
theorem dX5_bond_10 : decode cX5_bond 10 = .ok (.invokevirtual 68, 3) := by decide +kernel
theorem dX5_bond_13 : decode cX5_bond 13 = .ok (.ifCond .ne 6, 3) := by decide +kernel
theorem dX5_bond_16 : decode cX5_bond 16 = .ok (.bipush (-101), 2) := by decide +kernel
theorem dX5_bond_18 : decode cX5_bond 18 = .ok (.ireturn, 1) := by decide +kernel
theorem dX5_bond_19 : decode cX5_bond 19 = .ok (.iload_n 1, 1) := by decide +kernel
theorem dX5_bond_20 : decode cX5_bond 20 = .ok (.iload_n 2, 1) := by decide +kernel
theorem dX5_bond_21 : decode cX5_bond 21 = .ok (.if_icmp .eq 14, 3) := by decide +kernel
theorem dX5_bond_24 : decode cX5_bond 24 = .ok (.iload_n 3, 1) := by decide +kernel
theorem dX5_bond_25 : decode cX5_bond 25 = .ok (.iconst 0, 1) := by decide +kernel
theorem dX5_bond_26 : decode cX5_bond 26 = .ok (.sipush 1000, 3) := by decide +kernel
theorem dX5_bond_29 : decode cX5_bond 29 = .ok (.invokestatic 55, 3) := by decide +kernel
theorem dX5_bond_32 : decode cX5_bond 32 = .ok (.ifCond .ne 6, 3) := by decide +kernel
theorem dX5_bond_35 : decode cX5_bond 35 = .ok (.bipush (-102), 2) := by decide +kernel
theorem dX5_bond_37 : decode cX5_bond 37 = .ok (.ireturn, 1) := by decide +kernel
theorem dX5_bond_38 : decode cX5_bond 38 = .ok (.aload_n 0, 1) := by decide +kernel
theorem dX5_bond_39 : decode cX5_bond 39 = .ok (.getfield 26, 3) := by decide +kernel
theorem dX5_bond_42 : decode cX5_bond 42 = .ok (.bipush 12, 2) := by decide +kernel
theorem dX5_bond_44 : decode cX5_bond 44 = .ok (.iload_n 1, 1) := by decide +kernel
theorem dX5_bond_45 : decode cX5_bond 45 = .ok (.imul, 1) := by decide +kernel
theorem dX5_bond_46 : decode cX5_bond 46 = .ok (.iload_n 2, 1) := by decide +kernel
theorem dX5_bond_47 : decode cX5_bond 47 = .ok (.iadd, 1) := by decide +kernel
theorem dX5_bond_48 : decode cX5_bond 48 = .ok (.iaload, 1) := by decide +kernel
theorem dX5_bond_49 : decode cX5_bond 49 = .ok (.istore 4, 2) := by decide +kernel
theorem dX5_bond_51 : decode cX5_bond 51 = .ok (.aload_n 0, 1) := by decide +kernel
theorem dX5_bond_52 : decode cX5_bond 52 = .ok (.getfield 26, 3) := by decide +kernel
theorem dX5_bond_55 : decode cX5_bond 55 = .ok (.bipush 12, 2) := by decide +kernel
theorem dX5_bond_57 : decode cX5_bond 57 = .ok (.iload_n 1, 1) := by decide +kernel
theorem dX5_bond_58 : decode cX5_bond 58 = .ok (.imul, 1) := by decide +kernel
theorem dX5_bond_59 : decode cX5_bond 59 = .ok (.iload_n 2, 1) := by decide +kernel
theorem dX5_bond_60 : decode cX5_bond 60 = .ok (.iadd, 1) := by decide +kernel
theorem dX5_bond_61 : decode cX5_bond 61 = .ok (.iload_n 3, 1) := by decide +kernel
theorem dX5_bond_62 : decode cX5_bond 62 = .ok (.iastore, 1) := by decide +kernel
theorem dX5_bond_63 : decode cX5_bond 63 = .ok (.aload_n 0, 1) := by decide +kernel
theorem dX5_bond_64 : decode cX5_bond 64 = .ok (.getfield 26, 3) := by decide +kernel
theorem dX5_bond_67 : decode cX5_bond 67 = .ok (.bipush 12, 2) := by decide +kernel
theorem dX5_bond_69 : decode cX5_bond 69 = .ok (.iload_n 2, 1) := by decide +kernel
theorem dX5_bond_70 : decode cX5_bond 70 = .ok (.imul, 1) := by decide +kernel
theorem dX5_bond_71 : decode cX5_bond 71 = .ok (.iload_n 1, 1) := by decide +kernel
theorem dX5_bond_72 : decode cX5_bond 72 = .ok (.iadd, 1) := by decide +kernel
theorem dX5_bond_73 : decode cX5_bond 73 = .ok (.iload_n 3, 1) := by decide +kernel
theorem dX5_bond_74 : decode cX5_bond 74 = .ok (.iastore, 1) := by decide +kernel
theorem dX5_bond_75 : decode cX5_bond 75 = .ok (.iload 4, 2) := by decide +kernel
theorem dX5_bond_77 : decode cX5_bond 77 = .ok (.ireturn, 1) := by decide +kernel
theorem dX5_root_0 : decode cX5_root 0 = .ok (.lconst 0, 1) := by decide +kernel
theorem dX5_root_1 : decode cX5_root 1 = .ok (.lstore_n 2, 1) := by decide +kernel
theorem dX5_root_2 : decode cX5_root 2 = .ok (.bipush 28, 2) := by decide +kernel
theorem dX5_root_4 : decode cX5_root 4 = .ok (.istore 4, 2) := by decide +kernel
theorem dX5_root_6 : decode cX5_root 6 = .ok (.iload 4, 2) := by decide +kernel
theorem dX5_root_8 : decode cX5_root 8 = .ok (.ifCond .lt 34, 3) := by decide +kernel
theorem dX5_root_11 : decode cX5_root 11 = .ok (.lload_n 2, 1) := by decide +kernel
theorem dX5_root_12 : decode cX5_root 12 = .ok (.lconst 1, 1) := by decide +kernel
theorem dX5_root_13 : decode cX5_root 13 = .ok (.iload 4, 2) := by decide +kernel
theorem dX5_root_15 : decode cX5_root 15 = .ok (.lshl, 1) := by decide +kernel
theorem dX5_root_16 : decode cX5_root 16 = .ok (.lor, 1) := by decide +kernel
theorem dX5_root_17 : decode cX5_root 17 = .ok (.lstore 5, 2) := by decide +kernel
theorem dX5_root_19 : decode cX5_root 19 = .ok (.lload 5, 2) := by decide +kernel
theorem dX5_root_21 : decode cX5_root 21 = .ok (.lload 5, 2) := by decide +kernel
theorem dX5_root_23 : decode cX5_root 23 = .ok (.lmul, 1) := by decide +kernel
theorem dX5_root_24 : decode cX5_root 24 = .ok (.lload_n 0, 1) := by decide +kernel
theorem dX5_root_25 : decode cX5_root 25 = .ok (.lcmp, 1) := by decide +kernel
theorem dX5_root_26 : decode cX5_root 26 = .ok (.ifCond .gt 8, 3) := by decide +kernel
theorem dX5_root_29 : decode cX5_root 29 = .ok (.lload 5, 2) := by decide +kernel
theorem dX5_root_31 : decode cX5_root 31 = .ok (.goto 4, 3) := by decide +kernel
theorem dX5_root_34 : decode cX5_root 34 = .ok (.lload_n 2, 1) := by decide +kernel
theorem dX5_root_35 : decode cX5_root 35 = .ok (.lstore_n 2, 1) := by decide +kernel
theorem dX5_root_36 : decode cX5_root 36 = .ok (.iinc 4 (-1), 3) := by decide +kernel
theorem dX5_root_39 : decode cX5_root 39 = .ok (.goto (-33), 3) := by decide +kernel
theorem dX5_root_42 : decode cX5_root 42 = .ok (.lload_n 2, 1) := by decide +kernel
theorem dX5_root_43 : decode cX5_root 43 = .ok (.lreturn, 1) := by decide +kernel
set_option maxRecDepth 20000 in
theorem ggX5_matchedOf_X5_root : GoodIn wsX5_matchedOf wsX5_root := goodIn_r _ [12] (by decide +kernel) (by decide +kernel)
set_option maxRecDepth 20000 in
theorem gX5_matchedOf_X5_root : GoodIn wsX5_matchedOf (va_wsS RX5 146 yX5_root wsX5_root) := goodIn_app (goodIn_of _ (by decide +kernel)) ggX5_matchedOf_X5_root
theorem dX5_matchedOf_0 : decode cX5_matchedOf 0 = .ok (.lconst 0, 1) := by decide +kernel
theorem dX5_matchedOf_1 : decode cX5_matchedOf 1 = .ok (.lstore 4, 2) := by decide +kernel
theorem dX5_matchedOf_3 : decode cX5_matchedOf 3 = .ok (.iconst 0, 1) := by decide +kernel
theorem dX5_matchedOf_4 : decode cX5_matchedOf 4 = .ok (.istore 6, 2) := by decide +kernel
theorem dX5_matchedOf_6 : decode cX5_matchedOf 6 = .ok (.iload 6, 2) := by decide +kernel
theorem dX5_matchedOf_8 : decode cX5_matchedOf 8 = .ok (.aload_n 0, 1) := by decide +kernel
theorem dX5_matchedOf_9 : decode cX5_matchedOf 9 = .ok (.getfield 51, 3) := by decide +kernel
theorem dX5_matchedOf_12 : decode cX5_matchedOf 12 = .ok (.if_icmp .ge 124, 3) := by decide +kernel
theorem dX5_matchedOf_15 : decode cX5_matchedOf 15 = .ok (.iconst 0, 1) := by decide +kernel
theorem dX5_matchedOf_16 : decode cX5_matchedOf 16 = .ok (.istore 7, 2) := by decide +kernel
theorem dX5_matchedOf_18 : decode cX5_matchedOf 18 = .ok (.iload 7, 2) := by decide +kernel
theorem dX5_matchedOf_20 : decode cX5_matchedOf 20 = .ok (.iload 6, 2) := by decide +kernel
theorem dX5_matchedOf_22 : decode cX5_matchedOf 22 = .ok (.if_icmp .ge 108, 3) := by decide +kernel
theorem dX5_matchedOf_25 : decode cX5_matchedOf 25 = .ok (.ldc2_w 142, 3) := by decide +kernel
theorem dX5_matchedOf_28 : decode cX5_matchedOf 28 = .ok (.aload_n 0, 1) := by decide +kernel
theorem dX5_matchedOf_29 : decode cX5_matchedOf 29 = .ok (.getfield 23, 3) := by decide +kernel
theorem dX5_matchedOf_32 : decode cX5_matchedOf 32 = .ok (.bipush 6, 2) := by decide +kernel
theorem dX5_matchedOf_34 : decode cX5_matchedOf 34 = .ok (.iload 6, 2) := by decide +kernel
theorem dX5_matchedOf_36 : decode cX5_matchedOf 36 = .ok (.imul, 1) := by decide +kernel
theorem dX5_matchedOf_37 : decode cX5_matchedOf 37 = .ok (.iload_n 1, 1) := by decide +kernel
theorem dX5_matchedOf_38 : decode cX5_matchedOf 38 = .ok (.iadd, 1) := by decide +kernel
theorem dX5_matchedOf_39 : decode cX5_matchedOf 39 = .ok (.iaload, 1) := by decide +kernel
theorem dX5_matchedOf_40 : decode cX5_matchedOf 40 = .ok (.i2l, 1) := by decide +kernel
theorem dX5_matchedOf_41 : decode cX5_matchedOf 41 = .ok (.lmul, 1) := by decide +kernel
theorem dX5_matchedOf_42 : decode cX5_matchedOf 42 = .ok (.aload_n 0, 1) := by decide +kernel
theorem dX5_matchedOf_43 : decode cX5_matchedOf 43 = .ok (.getfield 23, 3) := by decide +kernel
theorem dX5_matchedOf_46 : decode cX5_matchedOf 46 = .ok (.bipush 6, 2) := by decide +kernel
theorem dX5_matchedOf_48 : decode cX5_matchedOf 48 = .ok (.iload 7, 2) := by decide +kernel
theorem dX5_matchedOf_50 : decode cX5_matchedOf 50 = .ok (.imul, 1) := by decide +kernel
theorem dX5_matchedOf_51 : decode cX5_matchedOf 51 = .ok (.iload_n 1, 1) := by decide +kernel
theorem dX5_matchedOf_52 : decode cX5_matchedOf 52 = .ok (.iadd, 1) := by decide +kernel
theorem dX5_matchedOf_53 : decode cX5_matchedOf 53 = .ok (.iaload, 1) := by decide +kernel
theorem dX5_matchedOf_54 : decode cX5_matchedOf 54 = .ok (.i2l, 1) := by decide +kernel
theorem dX5_matchedOf_55 : decode cX5_matchedOf 55 = .ok (.lmul, 1) := by decide +kernel
theorem dX5_matchedOf_56 : decode cX5_matchedOf 56 = .ok (.lstore 8, 2) := by decide +kernel
theorem dX5_matchedOf_58 : decode cX5_matchedOf 58 = .ok (.iload_n 3, 1) := by decide +kernel
theorem dX5_matchedOf_59 : decode cX5_matchedOf 59 = .ok (.ifCond .eq 9, 3) := by decide +kernel
theorem dX5_matchedOf_62 : decode cX5_matchedOf 62 = .ok (.ldc2_w 144, 3) := by decide +kernel
theorem dX5_matchedOf_65 : decode cX5_matchedOf 65 = .ok (.goto 17, 3) := by decide +kernel
theorem dX5_matchedOf_68 : decode cX5_matchedOf 68 = .ok (.aload_n 0, 1) := by decide +kernel
theorem dX5_matchedOf_69 : decode cX5_matchedOf 69 = .ok (.getfield 26, 3) := by decide +kernel
theorem dX5_matchedOf_72 : decode cX5_matchedOf 72 = .ok (.bipush 12, 2) := by decide +kernel
theorem dX5_matchedOf_74 : decode cX5_matchedOf 74 = .ok (.iload 6, 2) := by decide +kernel
theorem dX5_matchedOf_76 : decode cX5_matchedOf 76 = .ok (.imul, 1) := by decide +kernel
theorem dX5_matchedOf_77 : decode cX5_matchedOf 77 = .ok (.iload 7, 2) := by decide +kernel
theorem dX5_matchedOf_79 : decode cX5_matchedOf 79 = .ok (.iadd, 1) := by decide +kernel
theorem dX5_matchedOf_80 : decode cX5_matchedOf 80 = .ok (.iaload, 1) := by decide +kernel
theorem dX5_matchedOf_81 : decode cX5_matchedOf 81 = .ok (.i2l, 1) := by decide +kernel
theorem dX5_matchedOf_82 : decode cX5_matchedOf 82 = .ok (.lstore 10, 2) := by decide +kernel
theorem dX5_matchedOf_84 : decode cX5_matchedOf 84 = .ok (.lload 8, 2) := by decide +kernel
theorem dX5_matchedOf_86 : decode cX5_matchedOf 86 = .ok (.invokestatic 146, 3) := by decide +kernel
theorem dX5_matchedOf_89 : decode cX5_matchedOf 89 = .ok (.lstore 12, 2) := by decide +kernel
theorem dX5_matchedOf_91 : decode cX5_matchedOf 91 = .ok (.lload 4, 2) := by decide +kernel
theorem dX5_matchedOf_93 : decode cX5_matchedOf 93 = .ok (.lload 10, 2) := by decide +kernel
theorem dX5_matchedOf_95 : decode cX5_matchedOf 95 = .ok (.lload 12, 2) := by decide +kernel
theorem dX5_matchedOf_97 : decode cX5_matchedOf 97 = .ok (.lmul, 1) := by decide +kernel
theorem dX5_matchedOf_98 : decode cX5_matchedOf 98 = .ok (.iload_n 2, 1) := by decide +kernel
theorem dX5_matchedOf_99 : decode cX5_matchedOf 99 = .ok (.iconst 1, 1) := by decide +kernel
theorem dX5_matchedOf_100 : decode cX5_matchedOf 100 = .ok (.if_icmp .ne 19, 3) := by decide +kernel
theorem dX5_matchedOf_103 : decode cX5_matchedOf 103 = .ok (.lload 12, 2) := by decide +kernel
theorem dX5_matchedOf_105 : decode cX5_matchedOf 105 = .ok (.lload 12, 2) := by decide +kernel
theorem dX5_matchedOf_107 : decode cX5_matchedOf 107 = .ok (.lmul, 1) := by decide +kernel
theorem dX5_matchedOf_108 : decode cX5_matchedOf 108 = .ok (.lload 8, 2) := by decide +kernel
theorem dX5_matchedOf_110 : decode cX5_matchedOf 110 = .ok (.lcmp, 1) := by decide +kernel
theorem dX5_matchedOf_111 : decode cX5_matchedOf 111 = .ok (.ifCond .eq 8, 3) := by decide +kernel
theorem dX5_matchedOf_114 : decode cX5_matchedOf 114 = .ok (.lload 10, 2) := by decide +kernel
theorem dX5_matchedOf_116 : decode cX5_matchedOf 116 = .ok (.goto 4, 3) := by decide +kernel
theorem dX5_matchedOf_119 : decode cX5_matchedOf 119 = .ok (.lconst 0, 1) := by decide +kernel
theorem dX5_matchedOf_120 : decode cX5_matchedOf 120 = .ok (.ladd, 1) := by decide +kernel
theorem dX5_matchedOf_121 : decode cX5_matchedOf 121 = .ok (.ladd, 1) := by decide +kernel
theorem dX5_matchedOf_122 : decode cX5_matchedOf 122 = .ok (.lstore 4, 2) := by decide +kernel
theorem dX5_matchedOf_124 : decode cX5_matchedOf 124 = .ok (.iinc 7 1, 3) := by decide +kernel
theorem dX5_matchedOf_127 : decode cX5_matchedOf 127 = .ok (.goto (-109), 3) := by decide +kernel
theorem dX5_matchedOf_130 : decode cX5_matchedOf 130 = .ok (.iinc 6 1, 3) := by decide +kernel
theorem dX5_matchedOf_133 : decode cX5_matchedOf 133 = .ok (.goto (-127), 3) := by decide +kernel
theorem dX5_matchedOf_136 : decode cX5_matchedOf 136 = .ok (.ldc2_w 150, 3) := by decide +kernel
theorem dX5_matchedOf_139 : decode cX5_matchedOf 139 = .ok (.lload 4, 2) := by decide +kernel
theorem dX5_matchedOf_141 : decode cX5_matchedOf 141 = .ok (.lmul, 1) := by decide +kernel
theorem dX5_matchedOf_142 : decode cX5_matchedOf 142 = .ok (.iload_n 2, 1) := by decide +kernel
theorem dX5_matchedOf_143 : decode cX5_matchedOf 143 = .ok (.iconst 1, 1) := by decide +kernel
theorem dX5_matchedOf_144 : decode cX5_matchedOf 144 = .ok (.if_icmp .ne 9, 3) := by decide +kernel
theorem dX5_matchedOf_147 : decode cX5_matchedOf 147 = .ok (.ldc2_w 152, 3) := by decide +kernel
theorem dX5_matchedOf_150 : decode cX5_matchedOf 150 = .ok (.goto 4, 3) := by decide +kernel
theorem dX5_matchedOf_153 : decode cX5_matchedOf 153 = .ok (.lconst 0, 1) := by decide +kernel
theorem dX5_matchedOf_154 : decode cX5_matchedOf 154 = .ok (.ladd, 1) := by decide +kernel
theorem dX5_matchedOf_155 : decode cX5_matchedOf 155 = .ok (.ldc2_w 154, 3) := by decide +kernel
theorem dX5_matchedOf_158 : decode cX5_matchedOf 158 = .ok (.ldiv, 1) := by decide +kernel
theorem dX5_matchedOf_159 : decode cX5_matchedOf 159 = .ok (.lreturn, 1) := by decide +kernel
set_option maxRecDepth 20000 in
theorem ggX5_matched_X5_isProject : GoodIn wsX5_matched wsX5_isProject := goodIn_r _ [7, 8, 9, 10, 6, 11, 27, 28, 29, 30, 31, 32, 33, 34, 35, 36, 37, 38, 39, 40, 41, 42, 43, 44, 45, 46, 47, 48, 49, 50, 51] (by decide +kernel) (by decide +kernel)
set_option maxRecDepth 20000 in
theorem gX5_matched_X5_isProject : GoodIn wsX5_matched (wsV RX5 138 RX5 yX5_isProject wsX5_isProject) := goodIn_app (goodIn_of _ (by decide +kernel)) ggX5_matched_X5_isProject
set_option maxRecDepth 20000 in
theorem ggX5_matched_X5_in : GoodIn wsX5_matched wsX5_in := goodIn_r _ [11] (by decide +kernel) (by decide +kernel)
set_option maxRecDepth 20000 in
theorem gX5_matched_X5_in : GoodIn wsX5_matched (va_wsS RX5 55 yX5_in wsX5_in) := goodIn_app (goodIn_of _ (by decide +kernel)) ggX5_matched_X5_in
set_option maxRecDepth 20000 in
theorem ggX5_matched_X5_matchedOf : GoodIn wsX5_matched wsX5_matchedOf := goodIn_r _ [15, 16, 17, 18, 19, 20, 21, 22, 23, 24, 25, 6, 26, 27, 28, 29, 30, 31, 32, 33, 34, 35, 36, 37, 38, 39, 40, 41, 42, 43, 44, 45, 46, 47, 48, 49, 50, 51] (by decide +kernel) (by decide +kernel)
set_option maxRecDepth 20000 in
theorem gX5_matched_X5_matchedOf : GoodIn wsX5_matched (wsV RX5 158 RX5 yX5_matchedOf wsX5_matchedOf) := goodIn_app (goodIn_of _ (by decide +kernel)) ggX5_matched_X5_matchedOf
theorem dX5_matched_0 : decode cX5_matched 0 = .ok (.aload_n 0, 1) := by decide +kernel
theorem dX5_matched_1 : decode cX5_matched 1 = .ok (.iload_n 1, 1) := by decide +kernel
theorem dX5_matched_2 : decode cX5_matched 2 = .ok (.invokevirtual 138, 3) := by decide +kernel
theorem dX5_matched_5 : decode cX5_matched 5 = .ok (.ifCond .ne 7, 3) := by decide +kernel
theorem dX5_matched_8 : decode cX5_matched 8 = .ok (.ldc2_w 156, 3) := by decide +kernel
theorem dX5_matched_11 : decode cX5_matched 11 = .ok (.lreturn, 1) := by decide +kernel
theorem dX5_matched_12 : decode cX5_matched 12 = .ok (.iload_n 2, 1) := by decide +kernel
theorem dX5_matched_13 : decode cX5_matched 13 = .ok (.iconst 0, 1) := by decide +kernel
theorem dX5_matched_14 : decode cX5_matched 14 = .ok (.iconst 1, 1) := by decide +kernel
theorem dX5_matched_15 : decode cX5_matched 15 = .ok (.invokestatic 55, 3) := by decide +kernel
theorem dX5_matched_18 : decode cX5_matched 18 = .ok (.ifCond .eq 13, 3) := by decide +kernel
theorem dX5_matched_21 : decode cX5_matched 21 = .ok (.aload_n 0, 1) := by decide +kernel
theorem dX5_matched_22 : decode cX5_matched 22 = .ok (.iload_n 1, 1) := by decide +kernel
theorem dX5_matched_23 : decode cX5_matched 23 = .ok (.iload_n 2, 1) := by decide +kernel
theorem dX5_matched_24 : decode cX5_matched 24 = .ok (.iconst 0, 1) := by decide +kernel
theorem dX5_matched_25 : decode cX5_matched 25 = .ok (.invokevirtual 158, 3) := by decide +kernel
theorem dX5_matched_28 : decode cX5_matched 28 = .ok (.goto 6, 3) := by decide +kernel
theorem dX5_matched_31 : decode cX5_matched 31 = .ok (.ldc2_w 162, 3) := by decide +kernel
theorem dX5_matched_34 : decode cX5_matched 34 = .ok (.lreturn, 1) := by decide +kernel
set_option maxRecDepth 20000 in
theorem ggX5_share_X5_isProject : GoodIn wsX5_share wsX5_isProject := goodIn_r _ [12, 4, 13, 14, 11, 15, 31, 32, 33, 34, 35, 36, 37, 38, 39, 40, 41, 42, 43, 44, 45, 46, 47, 48, 49, 50, 51, 52, 53, 54, 55] (by decide +kernel) (by decide +kernel)
set_option maxRecDepth 20000 in
theorem gX5_share_X5_isProject : GoodIn wsX5_share (wsV RX5 138 RX5 yX5_isProject wsX5_isProject) := goodIn_app (goodIn_of _ (by decide +kernel)) ggX5_share_X5_isProject
set_option maxRecDepth 20000 in
theorem ggX5_share_X5_matchedOf : GoodIn wsX5_share wsX5_matchedOf := goodIn_r _ [19, 20, 21, 22, 23, 24, 25, 26, 27, 28, 29, 11, 30, 31, 32, 33, 34, 35, 36, 37, 38, 39, 40, 41, 42, 43, 44, 45, 46, 47, 48, 49, 50, 51, 52, 53, 54, 55] (by decide +kernel) (by decide +kernel)
set_option maxRecDepth 20000 in
theorem gX5_share_X5_matchedOf : GoodIn wsX5_share (wsV RX5 158 RX5 yX5_matchedOf wsX5_matchedOf) := goodIn_app (goodIn_of _ (by decide +kernel)) ggX5_share_X5_matchedOf
theorem dX5_share_0 : decode cX5_share 0 = .ok (.aload_n 0, 1) := by decide +kernel
theorem dX5_share_1 : decode cX5_share 1 = .ok (.iload_n 1, 1) := by decide +kernel
theorem dX5_share_2 : decode cX5_share 2 = .ok (.invokevirtual 138, 3) := by decide +kernel
theorem dX5_share_5 : decode cX5_share 5 = .ok (.ifCond .ne 7, 3) := by decide +kernel
theorem dX5_share_8 : decode cX5_share 8 = .ok (.ldc2_w 156, 3) := by decide +kernel
theorem dX5_share_11 : decode cX5_share 11 = .ok (.lreturn, 1) := by decide +kernel
theorem dX5_share_12 : decode cX5_share 12 = .ok (.lload_n 2, 1) := by decide +kernel
theorem dX5_share_13 : decode cX5_share 13 = .ok (.lconst 0, 1) := by decide +kernel
theorem dX5_share_14 : decode cX5_share 14 = .ok (.lcmp, 1) := by decide +kernel
theorem dX5_share_15 : decode cX5_share 15 = .ok (.ifCond .lt 11, 3) := by decide +kernel
theorem dX5_share_18 : decode cX5_share 18 = .ok (.lload_n 2, 1) := by decide +kernel
theorem dX5_share_19 : decode cX5_share 19 = .ok (.ldc2_w 164, 3) := by decide +kernel
theorem dX5_share_22 : decode cX5_share 22 = .ok (.lcmp, 1) := by decide +kernel
theorem dX5_share_23 : decode cX5_share 23 = .ok (.ifCond .le 7, 3) := by decide +kernel
theorem dX5_share_26 : decode cX5_share 26 = .ok (.ldc2_w 162, 3) := by decide +kernel
theorem dX5_share_29 : decode cX5_share 29 = .ok (.lreturn, 1) := by decide +kernel
theorem dX5_share_30 : decode cX5_share 30 = .ok (.lconst 0, 1) := by decide +kernel
theorem dX5_share_31 : decode cX5_share 31 = .ok (.lstore 4, 2) := by decide +kernel
theorem dX5_share_33 : decode cX5_share 33 = .ok (.iconst 0, 1) := by decide +kernel
theorem dX5_share_34 : decode cX5_share 34 = .ok (.istore 6, 2) := by decide +kernel
theorem dX5_share_36 : decode cX5_share 36 = .ok (.iload 6, 2) := by decide +kernel
theorem dX5_share_38 : decode cX5_share 38 = .ok (.aload_n 0, 1) := by decide +kernel
theorem dX5_share_39 : decode cX5_share 39 = .ok (.getfield 62, 3) := by decide +kernel
theorem dX5_share_42 : decode cX5_share 42 = .ok (.if_icmp .ge 36, 3) := by decide +kernel
theorem dX5_share_45 : decode cX5_share 45 = .ok (.aload_n 0, 1) := by decide +kernel
theorem dX5_share_46 : decode cX5_share 46 = .ok (.getfield 44, 3) := by decide +kernel
theorem dX5_share_49 : decode cX5_share 49 = .ok (.iload 6, 2) := by decide +kernel
theorem dX5_share_51 : decode cX5_share 51 = .ok (.aload_n 0, 1) := by decide +kernel
theorem dX5_share_52 : decode cX5_share 52 = .ok (.iload 6, 2) := by decide +kernel
theorem dX5_share_54 : decode cX5_share 54 = .ok (.iconst 0, 1) := by decide +kernel
theorem dX5_share_55 : decode cX5_share 55 = .ok (.iconst 0, 1) := by decide +kernel
theorem dX5_share_56 : decode cX5_share 56 = .ok (.invokevirtual 158, 3) := by decide +kernel
theorem dX5_share_59 : decode cX5_share 59 = .ok (.lastore, 1) := by decide +kernel
theorem dX5_share_60 : decode cX5_share 60 = .ok (.lload 4, 2) := by decide +kernel
theorem dX5_share_62 : decode cX5_share 62 = .ok (.aload_n 0, 1) := by decide +kernel
theorem dX5_share_63 : decode cX5_share 63 = .ok (.getfield 44, 3) := by decide +kernel
theorem dX5_share_66 : decode cX5_share 66 = .ok (.iload 6, 2) := by decide +kernel
theorem dX5_share_68 : decode cX5_share 68 = .ok (.laload, 1) := by decide +kernel
theorem dX5_share_69 : decode cX5_share 69 = .ok (.ladd, 1) := by decide +kernel
theorem dX5_share_70 : decode cX5_share 70 = .ok (.lstore 4, 2) := by decide +kernel
theorem dX5_share_72 : decode cX5_share 72 = .ok (.iinc 6 1, 3) := by decide +kernel
theorem dX5_share_75 : decode cX5_share 75 = .ok (.goto (-39), 3) := by decide +kernel
theorem dX5_share_78 : decode cX5_share 78 = .ok (.lload 4, 2) := by decide +kernel
theorem dX5_share_80 : decode cX5_share 80 = .ok (.lconst 0, 1) := by decide +kernel
theorem dX5_share_81 : decode cX5_share 81 = .ok (.lcmp, 1) := by decide +kernel
theorem dX5_share_82 : decode cX5_share 82 = .ok (.ifCond .ne 5, 3) := by decide +kernel
theorem dX5_share_85 : decode cX5_share 85 = .ok (.lconst 0, 1) := by decide +kernel
theorem dX5_share_86 : decode cX5_share 86 = .ok (.lreturn, 1) := by decide +kernel
theorem dX5_share_87 : decode cX5_share 87 = .ok (.lload_n 2, 1) := by decide +kernel
theorem dX5_share_88 : decode cX5_share 88 = .ok (.lstore 6, 2) := by decide +kernel
theorem dX5_share_90 : decode cX5_share 90 = .ok (.iconst 0, 1) := by decide +kernel
theorem dX5_share_91 : decode cX5_share 91 = .ok (.istore 8, 2) := by decide +kernel
theorem dX5_share_93 : decode cX5_share 93 = .ok (.iload 8, 2) := by decide +kernel
theorem dX5_share_95 : decode cX5_share 95 = .ok (.aload_n 0, 1) := by decide +kernel
theorem dX5_share_96 : decode cX5_share 96 = .ok (.getfield 62, 3) := by decide +kernel
theorem dX5_share_99 : decode cX5_share 99 = .ok (.if_icmp .ge 59, 3) := by decide +kernel
theorem dX5_share_102 : decode cX5_share 102 = .ok (.aload_n 0, 1) := by decide +kernel
theorem dX5_share_103 : decode cX5_share 103 = .ok (.getfield 48, 3) := by decide +kernel
theorem dX5_share_106 : decode cX5_share 106 = .ok (.iload 8, 2) := by decide +kernel
theorem dX5_share_108 : decode cX5_share 108 = .ok (.lload_n 2, 1) := by decide +kernel
theorem dX5_share_109 : decode cX5_share 109 = .ok (.aload_n 0, 1) := by decide +kernel
theorem dX5_share_110 : decode cX5_share 110 = .ok (.getfield 44, 3) := by decide +kernel
theorem dX5_share_113 : decode cX5_share 113 = .ok (.iload 8, 2) := by decide +kernel
theorem dX5_share_115 : decode cX5_share 115 = .ok (.laload, 1) := by decide +kernel
theorem dX5_share_116 : decode cX5_share 116 = .ok (.lmul, 1) := by decide +kernel
theorem dX5_share_117 : decode cX5_share 117 = .ok (.lload 4, 2) := by decide +kernel
theorem dX5_share_119 : decode cX5_share 119 = .ok (.lrem, 1) := by decide +kernel
theorem dX5_share_120 : decode cX5_share 120 = .ok (.lastore, 1) := by decide +kernel
theorem dX5_share_121 : decode cX5_share 121 = .ok (.aload_n 0, 1) := by decide +kernel
theorem dX5_share_122 : decode cX5_share 122 = .ok (.getfield 44, 3) := by decide +kernel
theorem dX5_share_125 : decode cX5_share 125 = .ok (.iload 8, 2) := by decide +kernel
theorem dX5_share_127 : decode cX5_share 127 = .ok (.lload_n 2, 1) := by decide +kernel
theorem dX5_share_128 : decode cX5_share 128 = .ok (.aload_n 0, 1) := by decide +kernel
theorem dX5_share_129 : decode cX5_share 129 = .ok (.getfield 44, 3) := by decide +kernel
theorem dX5_share_132 : decode cX5_share 132 = .ok (.iload 8, 2) := by decide +kernel
theorem dX5_share_134 : decode cX5_share 134 = .ok (.laload, 1) := by decide +kernel
theorem dX5_share_135 : decode cX5_share 135 = .ok (.lmul, 1) := by decide +kernel
theorem dX5_share_136 : decode cX5_share 136 = .ok (.lload 4, 2) := by decide +kernel
theorem dX5_share_138 : decode cX5_share 138 = .ok (.ldiv, 1) := by decide +kernel
theorem dX5_share_139 : decode cX5_share 139 = .ok (.lastore, 1) := by decide +kernel
theorem dX5_share_140 : decode cX5_share 140 = .ok (.lload 6, 2) := by decide +kernel
theorem dX5_share_142 : decode cX5_share 142 = .ok (.aload_n 0, 1) := by decide +kernel
theorem dX5_share_143 : decode cX5_share 143 = .ok (.getfield 44, 3) := by decide +kernel
theorem dX5_share_146 : decode cX5_share 146 = .ok (.iload 8, 2) := by decide +kernel
theorem dX5_share_148 : decode cX5_share 148 = .ok (.laload, 1) := by decide +kernel
theorem dX5_share_149 : decode cX5_share 149 = .ok (.lsub, 1) := by decide +kernel
theorem dX5_share_150 : decode cX5_share 150 = .ok (.lstore 6, 2) := by decide +kernel
theorem dX5_share_152 : decode cX5_share 152 = .ok (.iinc 8 1, 3) := by decide +kernel
theorem dX5_share_155 : decode cX5_share 155 = .ok (.goto (-62), 3) := by decide +kernel
theorem dX5_share_158 : decode cX5_share 158 = .ok (.lload 6, 2) := by decide +kernel
theorem dX5_share_160 : decode cX5_share 160 = .ok (.lconst 0, 1) := by decide +kernel
theorem dX5_share_161 : decode cX5_share 161 = .ok (.lcmp, 1) := by decide +kernel
theorem dX5_share_162 : decode cX5_share 162 = .ok (.ifCond .le 81, 3) := by decide +kernel
theorem dX5_share_165 : decode cX5_share 165 = .ok (.iconst 0, 1) := by decide +kernel
theorem dX5_share_166 : decode cX5_share 166 = .ok (.istore 8, 2) := by decide +kernel
theorem dX5_share_168 : decode cX5_share 168 = .ok (.iconst 1, 1) := by decide +kernel
theorem dX5_share_169 : decode cX5_share 169 = .ok (.istore 9, 2) := by decide +kernel
theorem dX5_share_171 : decode cX5_share 171 = .ok (.iload 9, 2) := by decide +kernel
theorem dX5_share_173 : decode cX5_share 173 = .ok (.aload_n 0, 1) := by decide +kernel
theorem dX5_share_174 : decode cX5_share 174 = .ok (.getfield 62, 3) := by decide +kernel
theorem dX5_share_177 : decode cX5_share 177 = .ok (.if_icmp .ge 36, 3) := by decide +kernel
theorem dX5_share_180 : decode cX5_share 180 = .ok (.aload_n 0, 1) := by decide +kernel
theorem dX5_share_181 : decode cX5_share 181 = .ok (.getfield 48, 3) := by decide +kernel
theorem dX5_share_184 : decode cX5_share 184 = .ok (.iload 9, 2) := by decide +kernel
theorem dX5_share_186 : decode cX5_share 186 = .ok (.laload, 1) := by decide +kernel
theorem dX5_share_187 : decode cX5_share 187 = .ok (.aload_n 0, 1) := by decide +kernel
theorem dX5_share_188 : decode cX5_share 188 = .ok (.getfield 48, 3) := by decide +kernel
theorem dX5_share_191 : decode cX5_share 191 = .ok (.iload 8, 2) := by decide +kernel
theorem dX5_share_193 : decode cX5_share 193 = .ok (.laload, 1) := by decide +kernel
theorem dX5_share_194 : decode cX5_share 194 = .ok (.lcmp, 1) := by decide +kernel
theorem dX5_share_195 : decode cX5_share 195 = .ok (.ifCond .le 8, 3) := by decide +kernel
theorem dX5_share_198 : decode cX5_share 198 = .ok (.iload 9, 2) := by decide +kernel
theorem dX5_share_200 : decode cX5_share 200 = .ok (.goto 5, 3) := by decide +kernel
theorem dX5_share_203 : decode cX5_share 203 = .ok (.iload 8, 2) := by decide +kernel
theorem dX5_share_205 : decode cX5_share 205 = .ok (.istore 8, 2) := by decide +kernel
theorem dX5_share_207 : decode cX5_share 207 = .ok (.iinc 9 1, 3) := by decide +kernel
theorem dX5_share_210 : decode cX5_share 210 = .ok (.goto (-39), 3) := by decide +kernel
theorem dX5_share_213 : decode cX5_share 213 = .ok (.aload_n 0, 1) := by decide +kernel
theorem dX5_share_214 : decode cX5_share 214 = .ok (.getfield 48, 3) := by decide +kernel
theorem dX5_share_217 : decode cX5_share 217 = .ok (.iload 8, 2) := by decide +kernel
theorem dX5_share_219 : decode cX5_share 219 = .ok (.ldc2_w 166, 3) := by decide +kernel
theorem dX5_share_222 : decode cX5_share 222 = .ok (.lastore, 1) := by decide +kernel
theorem dX5_share_223 : decode cX5_share 223 = .ok (.aload_n 0, 1) := by decide +kernel
theorem dX5_share_224 : decode cX5_share 224 = .ok (.getfield 44, 3) := by decide +kernel
theorem dX5_share_227 : decode cX5_share 227 = .ok (.iload 8, 2) := by decide +kernel
theorem dX5_share_229 : decode cX5_share 229 = .ok (.dup2, 1) := by decide +kernel
theorem dX5_share_230 : decode cX5_share 230 = .ok (.laload, 1) := by decide +kernel
theorem dX5_share_231 : decode cX5_share 231 = .ok (.lconst 1, 1) := by decide +kernel
theorem dX5_share_232 : decode cX5_share 232 = .ok (.ladd, 1) := by decide +kernel
theorem dX5_share_233 : decode cX5_share 233 = .ok (.lastore, 1) := by decide +kernel
theorem dX5_share_234 : decode cX5_share 234 = .ok (.lload 6, 2) := by decide +kernel
theorem dX5_share_236 : decode cX5_share 236 = .ok (.lconst 1, 1) := by decide +kernel
theorem dX5_share_237 : decode cX5_share 237 = .ok (.lsub, 1) := by decide +kernel
theorem dX5_share_238 : decode cX5_share 238 = .ok (.lstore 6, 2) := by decide +kernel
theorem dX5_share_240 : decode cX5_share 240 = .ok (.goto (-82), 3) := by decide +kernel
theorem dX5_share_243 : decode cX5_share 243 = .ok (.aload_n 0, 1) := by decide +kernel
theorem dX5_share_244 : decode cX5_share 244 = .ok (.getfield 44, 3) := by decide +kernel
theorem dX5_share_247 : decode cX5_share 247 = .ok (.iload_n 1, 1) := by decide +kernel
theorem dX5_share_248 : decode cX5_share 248 = .ok (.laload, 1) := by decide +kernel
theorem dX5_share_249 : decode cX5_share 249 = .ok (.lreturn, 1) := by decide +kernel
set_option maxRecDepth 20000 in
theorem ggX5_damped_X5_isProject : GoodIn wsX5_damped wsX5_isProject := goodIn_r _ [6, 7, 8, 9, 5, 10, 26, 27, 28, 29, 30, 31, 32, 33, 34, 35, 36, 37, 38, 39, 40, 41, 42, 43, 44, 45, 46, 47, 48, 49, 50] (by decide +kernel) (by decide +kernel)
set_option maxRecDepth 20000 in
theorem gX5_damped_X5_isProject : GoodIn wsX5_damped (wsV RX5 138 RX5 yX5_isProject wsX5_isProject) := goodIn_app (goodIn_of _ (by decide +kernel)) ggX5_damped_X5_isProject
set_option maxRecDepth 20000 in
theorem ggX5_damped_X5_matchedOf : GoodIn wsX5_damped wsX5_matchedOf := goodIn_r _ [14, 15, 16, 17, 18, 19, 20, 21, 22, 23, 24, 5, 25, 26, 27, 28, 29, 30, 31, 32, 33, 34, 35, 36, 37, 38, 39, 40, 41, 42, 43, 44, 45, 46, 47, 48, 49, 50] (by decide +kernel) (by decide +kernel)
set_option maxRecDepth 20000 in
theorem gX5_damped_X5_matchedOf : GoodIn wsX5_damped (wsV RX5 158 RX5 yX5_matchedOf wsX5_matchedOf) := goodIn_app (goodIn_of _ (by decide +kernel)) ggX5_damped_X5_matchedOf
theorem dX5_damped_0 : decode cX5_damped 0 = .ok (.aload_n 0, 1) := by decide +kernel
theorem dX5_damped_1 : decode cX5_damped 1 = .ok (.iload_n 1, 1) := by decide +kernel
theorem dX5_damped_2 : decode cX5_damped 2 = .ok (.invokevirtual 138, 3) := by decide +kernel
theorem dX5_damped_5 : decode cX5_damped 5 = .ok (.ifCond .eq 21, 3) := by decide +kernel
theorem dX5_damped_8 : decode cX5_damped 8 = .ok (.aload_n 0, 1) := by decide +kernel
theorem dX5_damped_9 : decode cX5_damped 9 = .ok (.iload_n 1, 1) := by decide +kernel
theorem dX5_damped_10 : decode cX5_damped 10 = .ok (.iconst 0, 1) := by decide +kernel
theorem dX5_damped_11 : decode cX5_damped 11 = .ok (.iconst 1, 1) := by decide +kernel
theorem dX5_damped_12 : decode cX5_damped 12 = .ok (.invokevirtual 158, 3) := by decide +kernel
theorem dX5_damped_15 : decode cX5_damped 15 = .ok (.aload_n 0, 1) := by decide +kernel
theorem dX5_damped_16 : decode cX5_damped 16 = .ok (.iload_n 1, 1) := by decide +kernel
theorem dX5_damped_17 : decode cX5_damped 17 = .ok (.iconst 0, 1) := by decide +kernel
theorem dX5_damped_18 : decode cX5_damped 18 = .ok (.iconst 0, 1) := by decide +kernel
theorem dX5_damped_19 : decode cX5_damped 19 = .ok (.invokevirtual 158, 3) := by decide +kernel
theorem dX5_damped_22 : decode cX5_damped 22 = .ok (.lsub, 1) := by decide +kernel
theorem dX5_damped_23 : decode cX5_damped 23 = .ok (.goto 6, 3) := by decide +kernel
theorem dX5_damped_26 : decode cX5_damped 26 = .ok (.ldc2_w 156, 3) := by decide +kernel
theorem dX5_damped_29 : decode cX5_damped 29 = .ok (.lreturn, 1) := by decide +kernel
set_option maxRecDepth 20000 in
theorem ggX5_likenessOf_X5_costOf : GoodIn wsX5_likenessOf wsX5_costOf := goodIn_r _ [8, 1, 2, 9, 10, 11, 12, 13, 14, 15, 16, 17, 18, 19, 20, 21, 22, 23, 24, 25, 26, 27, 28, 29, 30, 31, 32, 33] (by decide +kernel) (by decide +kernel)
set_option maxRecDepth 20000 in
theorem gX5_likenessOf_X5_costOf : GoodIn wsX5_likenessOf (wsV RX5 75 RX5 yX5_costOf wsX5_costOf) := goodIn_app (goodIn_of _ (by decide +kernel)) ggX5_likenessOf_X5_costOf
theorem dX5_likenessOf_0 : decode cX5_likenessOf 0 = .ok (.lconst 0, 1) := by decide +kernel
theorem dX5_likenessOf_1 : decode cX5_likenessOf 1 = .ok (.lstore_n 3, 1) := by decide +kernel
theorem dX5_likenessOf_2 : decode cX5_likenessOf 2 = .ok (.iconst 0, 1) := by decide +kernel
theorem dX5_likenessOf_3 : decode cX5_likenessOf 3 = .ok (.istore 5, 2) := by decide +kernel
theorem dX5_likenessOf_5 : decode cX5_likenessOf 5 = .ok (.iload 5, 2) := by decide +kernel
theorem dX5_likenessOf_7 : decode cX5_likenessOf 7 = .ok (.aload_n 0, 1) := by decide +kernel
theorem dX5_likenessOf_8 : decode cX5_likenessOf 8 = .ok (.getfield 59, 3) := by decide +kernel
theorem dX5_likenessOf_11 : decode cX5_likenessOf 11 = .ok (.if_icmp .ge 38, 3) := by decide +kernel
theorem dX5_likenessOf_14 : decode cX5_likenessOf 14 = .ok (.lload_n 3, 1) := by decide +kernel
theorem dX5_likenessOf_15 : decode cX5_likenessOf 15 = .ok (.aload_n 0, 1) := by decide +kernel
theorem dX5_likenessOf_16 : decode cX5_likenessOf 16 = .ok (.getfield 17, 3) := by decide +kernel
theorem dX5_likenessOf_19 : decode cX5_likenessOf 19 = .ok (.bipush 6, 2) := by decide +kernel
theorem dX5_likenessOf_21 : decode cX5_likenessOf 21 = .ok (.iload_n 1, 1) := by decide +kernel
theorem dX5_likenessOf_22 : decode cX5_likenessOf 22 = .ok (.imul, 1) := by decide +kernel
theorem dX5_likenessOf_23 : decode cX5_likenessOf 23 = .ok (.iload 5, 2) := by decide +kernel
theorem dX5_likenessOf_25 : decode cX5_likenessOf 25 = .ok (.iadd, 1) := by decide +kernel
theorem dX5_likenessOf_26 : decode cX5_likenessOf 26 = .ok (.iaload, 1) := by decide +kernel
theorem dX5_likenessOf_27 : decode cX5_likenessOf 27 = .ok (.aload_n 0, 1) := by decide +kernel
theorem dX5_likenessOf_28 : decode cX5_likenessOf 28 = .ok (.getfield 17, 3) := by decide +kernel
theorem dX5_likenessOf_31 : decode cX5_likenessOf 31 = .ok (.bipush 6, 2) := by decide +kernel
theorem dX5_likenessOf_33 : decode cX5_likenessOf 33 = .ok (.iload_n 2, 1) := by decide +kernel
theorem dX5_likenessOf_34 : decode cX5_likenessOf 34 = .ok (.imul, 1) := by decide +kernel
theorem dX5_likenessOf_35 : decode cX5_likenessOf 35 = .ok (.iload 5, 2) := by decide +kernel
theorem dX5_likenessOf_37 : decode cX5_likenessOf 37 = .ok (.iadd, 1) := by decide +kernel
theorem dX5_likenessOf_38 : decode cX5_likenessOf 38 = .ok (.iaload, 1) := by decide +kernel
theorem dX5_likenessOf_39 : decode cX5_likenessOf 39 = .ok (.imul, 1) := by decide +kernel
theorem dX5_likenessOf_40 : decode cX5_likenessOf 40 = .ok (.i2l, 1) := by decide +kernel
theorem dX5_likenessOf_41 : decode cX5_likenessOf 41 = .ok (.ladd, 1) := by decide +kernel
theorem dX5_likenessOf_42 : decode cX5_likenessOf 42 = .ok (.lstore_n 3, 1) := by decide +kernel
theorem dX5_likenessOf_43 : decode cX5_likenessOf 43 = .ok (.iinc 5 1, 3) := by decide +kernel
theorem dX5_likenessOf_46 : decode cX5_likenessOf 46 = .ok (.goto (-41), 3) := by decide +kernel
theorem dX5_likenessOf_49 : decode cX5_likenessOf 49 = .ok (.aload_n 0, 1) := by decide +kernel
theorem dX5_likenessOf_50 : decode cX5_likenessOf 50 = .ok (.iload_n 1, 1) := by decide +kernel
theorem dX5_likenessOf_51 : decode cX5_likenessOf 51 = .ok (.invokevirtual 75, 3) := by decide +kernel
theorem dX5_likenessOf_54 : decode cX5_likenessOf 54 = .ok (.i2l, 1) := by decide +kernel
theorem dX5_likenessOf_55 : decode cX5_likenessOf 55 = .ok (.aload_n 0, 1) := by decide +kernel
theorem dX5_likenessOf_56 : decode cX5_likenessOf 56 = .ok (.iload_n 2, 1) := by decide +kernel
theorem dX5_likenessOf_57 : decode cX5_likenessOf 57 = .ok (.invokevirtual 75, 3) := by decide +kernel
theorem dX5_likenessOf_60 : decode cX5_likenessOf 60 = .ok (.i2l, 1) := by decide +kernel
theorem dX5_likenessOf_61 : decode cX5_likenessOf 61 = .ok (.lmul, 1) := by decide +kernel
theorem dX5_likenessOf_62 : decode cX5_likenessOf 62 = .ok (.lstore 5, 2) := by decide +kernel
theorem dX5_likenessOf_64 : decode cX5_likenessOf 64 = .ok (.lload 5, 2) := by decide +kernel
theorem dX5_likenessOf_66 : decode cX5_likenessOf 66 = .ok (.lconst 0, 1) := by decide +kernel
theorem dX5_likenessOf_67 : decode cX5_likenessOf 67 = .ok (.lcmp, 1) := by decide +kernel
theorem dX5_likenessOf_68 : decode cX5_likenessOf 68 = .ok (.ifCond .ne 7, 3) := by decide +kernel
theorem dX5_likenessOf_71 : decode cX5_likenessOf 71 = .ok (.sipush (-2000), 3) := by decide +kernel
theorem dX5_likenessOf_74 : decode cX5_likenessOf 74 = .ok (.ireturn, 1) := by decide +kernel
theorem dX5_likenessOf_75 : decode cX5_likenessOf 75 = .ok (.lload_n 3, 1) := by decide +kernel
theorem dX5_likenessOf_76 : decode cX5_likenessOf 76 = .ok (.lload_n 3, 1) := by decide +kernel
theorem dX5_likenessOf_77 : decode cX5_likenessOf 77 = .ok (.lmul, 1) := by decide +kernel
theorem dX5_likenessOf_78 : decode cX5_likenessOf 78 = .ok (.ldc2_w 144, 3) := by decide +kernel
theorem dX5_likenessOf_81 : decode cX5_likenessOf 81 = .ok (.lmul, 1) := by decide +kernel
theorem dX5_likenessOf_82 : decode cX5_likenessOf 82 = .ok (.lload 5, 2) := by decide +kernel
theorem dX5_likenessOf_84 : decode cX5_likenessOf 84 = .ok (.ldiv, 1) := by decide +kernel
theorem dX5_likenessOf_85 : decode cX5_likenessOf 85 = .ok (.l2i, 1) := by decide +kernel
theorem dX5_likenessOf_86 : decode cX5_likenessOf 86 = .ok (.istore 7, 2) := by decide +kernel
theorem dX5_likenessOf_88 : decode cX5_likenessOf 88 = .ok (.lload_n 3, 1) := by decide +kernel
theorem dX5_likenessOf_89 : decode cX5_likenessOf 89 = .ok (.lconst 0, 1) := by decide +kernel
theorem dX5_likenessOf_90 : decode cX5_likenessOf 90 = .ok (.lcmp, 1) := by decide +kernel
theorem dX5_likenessOf_91 : decode cX5_likenessOf 91 = .ok (.ifCond .ge 9, 3) := by decide +kernel
theorem dX5_likenessOf_94 : decode cX5_likenessOf 94 = .ok (.iload 7, 2) := by decide +kernel
theorem dX5_likenessOf_96 : decode cX5_likenessOf 96 = .ok (.ineg, 1) := by decide +kernel
theorem dX5_likenessOf_97 : decode cX5_likenessOf 97 = .ok (.goto 5, 3) := by decide +kernel
theorem dX5_likenessOf_100 : decode cX5_likenessOf 100 = .ok (.iload 7, 2) := by decide +kernel
theorem dX5_likenessOf_102 : decode cX5_likenessOf 102 = .ok (.ireturn, 1) := by decide +kernel
set_option maxRecDepth 20000 in
theorem ggX5_likeness_X5_isPerson : GoodIn wsX5_likeness wsX5_isPerson := goodIn_r _ [5, 6, 7, 8, 4, 9, 21, 22, 23, 24, 25, 26, 27, 28, 29, 30, 31, 32, 33, 34, 35, 36, 37, 38, 39, 40, 41, 42, 43, 44, 45] (by decide +kernel) (by decide +kernel)
set_option maxRecDepth 20000 in
theorem gX5_likeness_X5_isPerson : GoodIn wsX5_likeness (wsV RX5 68 RX5 yX5_isPerson wsX5_isPerson) := goodIn_app (goodIn_of _ (by decide +kernel)) ggX5_likeness_X5_isPerson
set_option maxRecDepth 20000 in
theorem ggX5_likeness_X5_likenessOf : GoodIn wsX5_likeness wsX5_likenessOf := goodIn_r _ [13, 14, 15, 16, 17, 18, 19, 4, 20, 21, 22, 23, 24, 25, 26, 27, 28, 29, 30, 31, 32, 33, 34, 35, 36, 37, 38, 39, 40, 41, 42, 43, 44, 45] (by decide +kernel) (by decide +kernel)
set_option maxRecDepth 20000 in
theorem gX5_likeness_X5_likenessOf : GoodIn wsX5_likeness (wsV RX5 168 RX5 yX5_likenessOf wsX5_likenessOf) := goodIn_app (goodIn_of _ (by decide +kernel)) ggX5_likeness_X5_likenessOf
theorem dX5_likeness_0 : decode cX5_likeness 0 = .ok (.aload_n 0, 1) := by decide +kernel
theorem dX5_likeness_1 : decode cX5_likeness 1 = .ok (.iload_n 1, 1) := by decide +kernel
theorem dX5_likeness_2 : decode cX5_likeness 2 = .ok (.invokevirtual 68, 3) := by decide +kernel
theorem dX5_likeness_5 : decode cX5_likeness 5 = .ok (.ifCond .eq 20, 3) := by decide +kernel
theorem dX5_likeness_8 : decode cX5_likeness 8 = .ok (.aload_n 0, 1) := by decide +kernel
theorem dX5_likeness_9 : decode cX5_likeness 9 = .ok (.iload_n 2, 1) := by decide +kernel
theorem dX5_likeness_10 : decode cX5_likeness 10 = .ok (.invokevirtual 68, 3) := by decide +kernel
theorem dX5_likeness_13 : decode cX5_likeness 13 = .ok (.ifCond .eq 12, 3) := by decide +kernel
theorem dX5_likeness_16 : decode cX5_likeness 16 = .ok (.aload_n 0, 1) := by decide +kernel
theorem dX5_likeness_17 : decode cX5_likeness 17 = .ok (.iload_n 1, 1) := by decide +kernel
theorem dX5_likeness_18 : decode cX5_likeness 18 = .ok (.iload_n 2, 1) := by decide +kernel
theorem dX5_likeness_19 : decode cX5_likeness 19 = .ok (.invokevirtual 168, 3) := by decide +kernel
theorem dX5_likeness_22 : decode cX5_likeness 22 = .ok (.goto 6, 3) := by decide +kernel
theorem dX5_likeness_25 : decode cX5_likeness 25 = .ok (.sipush (-2001), 3) := by decide +kernel
theorem dX5_likeness_28 : decode cX5_likeness 28 = .ok (.ireturn, 1) := by decide +kernel
set_option maxRecDepth 20000 in
theorem ggX5_group_X5_isPerson : GoodIn wsX5_group wsX5_isPerson := goodIn_r _ [6, 1, 7, 8, 5, 9, 21, 22, 23, 24, 25, 26, 27, 28, 29, 30, 31, 32, 33, 34, 35, 36, 37, 38, 39, 40, 41, 42, 43, 44, 45] (by decide +kernel) (by decide +kernel)
set_option maxRecDepth 20000 in
theorem gX5_group_X5_isPerson : GoodIn wsX5_group (wsV RX5 68 RX5 yX5_isPerson wsX5_isPerson) := goodIn_app (goodIn_of _ (by decide +kernel)) ggX5_group_X5_isPerson
set_option maxRecDepth 20000 in
theorem ggX5_group_X5_in : GoodIn wsX5_group wsX5_in := goodIn_r _ [9] (by decide +kernel) (by decide +kernel)
set_option maxRecDepth 20000 in
theorem gX5_group_X5_in : GoodIn wsX5_group (va_wsS RX5 55 yX5_in wsX5_in) := goodIn_app (goodIn_of _ (by decide +kernel)) ggX5_group_X5_in
set_option maxRecDepth 20000 in
theorem ggX5_group_X5_likenessOf : GoodIn wsX5_group wsX5_likenessOf := goodIn_r _ [13, 14, 15, 16, 17, 18, 19, 5, 20, 21, 22, 23, 24, 25, 26, 27, 28, 29, 30, 31, 32, 33, 34, 35, 36, 37, 38, 39, 40, 41, 42, 43, 44, 45] (by decide +kernel) (by decide +kernel)
set_option maxRecDepth 20000 in
theorem gX5_group_X5_likenessOf : GoodIn wsX5_group (wsV RX5 168 RX5 yX5_likenessOf wsX5_likenessOf) := goodIn_app (goodIn_of _ (by decide +kernel)) ggX5_group_X5_likenessOf
theorem dX5_group_0 : decode cX5_group 0 = .ok (.aload_n 0, 1) := by decide +kernel
theorem dX5_group_1 : decode cX5_group 1 = .ok (.iload_n 1, 1) := by decide +kernel
theorem dX5_group_2 : decode cX5_group 2 = .ok (.invokevirtual 68, 3) := by decide +kernel
theorem dX5_group_5 : decode cX5_group 5 = .ok (.ifCond .ne 6, 3) := by decide +kernel
theorem dX5_group_8 : decode cX5_group 8 = .ok (.bipush (-101), 2) := by decide +kernel
theorem dX5_group_10 : decode cX5_group 10 = .ok (.ireturn, 1) := by decide +kernel
theorem dX5_group_11 : decode cX5_group 11 = .ok (.iload_n 2, 1) := by decide +kernel
theorem dX5_group_12 : decode cX5_group 12 = .ok (.iconst 1, 1) := by decide +kernel
theorem dX5_group_13 : decode cX5_group 13 = .ok (.sipush 1000, 3) := by decide +kernel
theorem dX5_group_16 : decode cX5_group 16 = .ok (.invokestatic 55, 3) := by decide +kernel
theorem dX5_group_19 : decode cX5_group 19 = .ok (.ifCond .ne 6, 3) := by decide +kernel
theorem dX5_group_22 : decode cX5_group 22 = .ok (.bipush (-102), 2) := by decide +kernel
theorem dX5_group_24 : decode cX5_group 24 = .ok (.ireturn, 1) := by decide +kernel
theorem dX5_group_25 : decode cX5_group 25 = .ok (.iconst 1, 1) := by decide +kernel
theorem dX5_group_26 : decode cX5_group 26 = .ok (.iload_n 1, 1) := by decide +kernel
theorem dX5_group_27 : decode cX5_group 27 = .ok (.ishl, 1) := by decide +kernel
theorem dX5_group_28 : decode cX5_group 28 = .ok (.istore_n 3, 1) := by decide +kernel
theorem dX5_group_29 : decode cX5_group 29 = .ok (.iconst 0, 1) := by decide +kernel
theorem dX5_group_30 : decode cX5_group 30 = .ok (.istore 4, 2) := by decide +kernel
theorem dX5_group_32 : decode cX5_group 32 = .ok (.iload_n 3, 1) := by decide +kernel
theorem dX5_group_33 : decode cX5_group 33 = .ok (.iload 4, 2) := by decide +kernel
theorem dX5_group_35 : decode cX5_group 35 = .ok (.if_icmp .eq 78, 3) := by decide +kernel
theorem dX5_group_38 : decode cX5_group 38 = .ok (.iload_n 3, 1) := by decide +kernel
theorem dX5_group_39 : decode cX5_group 39 = .ok (.istore 4, 2) := by decide +kernel
theorem dX5_group_41 : decode cX5_group 41 = .ok (.iconst 0, 1) := by decide +kernel
theorem dX5_group_42 : decode cX5_group 42 = .ok (.istore 5, 2) := by decide +kernel
theorem dX5_group_44 : decode cX5_group 44 = .ok (.iload 5, 2) := by decide +kernel
theorem dX5_group_46 : decode cX5_group 46 = .ok (.aload_n 0, 1) := by decide +kernel
theorem dX5_group_47 : decode cX5_group 47 = .ok (.getfield 51, 3) := by decide +kernel
theorem dX5_group_50 : decode cX5_group 50 = .ok (.if_icmp .ge 60, 3) := by decide +kernel
theorem dX5_group_53 : decode cX5_group 53 = .ok (.iconst 0, 1) := by decide +kernel
theorem dX5_group_54 : decode cX5_group 54 = .ok (.istore 6, 2) := by decide +kernel
theorem dX5_group_56 : decode cX5_group 56 = .ok (.iload 6, 2) := by decide +kernel
theorem dX5_group_58 : decode cX5_group 58 = .ok (.aload_n 0, 1) := by decide +kernel
theorem dX5_group_59 : decode cX5_group 59 = .ok (.getfield 51, 3) := by decide +kernel
theorem dX5_group_62 : decode cX5_group 62 = .ok (.if_icmp .ge 42, 3) := by decide +kernel
theorem dX5_group_65 : decode cX5_group 65 = .ok (.iload_n 3, 1) := by decide +kernel
theorem dX5_group_66 : decode cX5_group 66 = .ok (.iload_n 3, 1) := by decide +kernel
theorem dX5_group_67 : decode cX5_group 67 = .ok (.iload 5, 2) := by decide +kernel
theorem dX5_group_69 : decode cX5_group 69 = .ok (.ishr, 1) := by decide +kernel
theorem dX5_group_70 : decode cX5_group 70 = .ok (.iconst 1, 1) := by decide +kernel
theorem dX5_group_71 : decode cX5_group 71 = .ok (.iand, 1) := by decide +kernel
theorem dX5_group_72 : decode cX5_group 72 = .ok (.iconst 1, 1) := by decide +kernel
theorem dX5_group_73 : decode cX5_group 73 = .ok (.if_icmp .ne 22, 3) := by decide +kernel
theorem dX5_group_76 : decode cX5_group 76 = .ok (.aload_n 0, 1) := by decide +kernel
theorem dX5_group_77 : decode cX5_group 77 = .ok (.iload 5, 2) := by decide +kernel
theorem dX5_group_79 : decode cX5_group 79 = .ok (.iload 6, 2) := by decide +kernel
theorem dX5_group_81 : decode cX5_group 81 = .ok (.invokevirtual 168, 3) := by decide +kernel
theorem dX5_group_84 : decode cX5_group 84 = .ok (.iload_n 2, 1) := by decide +kernel
theorem dX5_group_85 : decode cX5_group 85 = .ok (.if_icmp .lt 10, 3) := by decide +kernel
theorem dX5_group_88 : decode cX5_group 88 = .ok (.iconst 1, 1) := by decide +kernel
theorem dX5_group_89 : decode cX5_group 89 = .ok (.iload 6, 2) := by decide +kernel
theorem dX5_group_91 : decode cX5_group 91 = .ok (.ishl, 1) := by decide +kernel
theorem dX5_group_92 : decode cX5_group 92 = .ok (.goto 4, 3) := by decide +kernel
theorem dX5_group_95 : decode cX5_group 95 = .ok (.iconst 0, 1) := by decide +kernel
theorem dX5_group_96 : decode cX5_group 96 = .ok (.ior, 1) := by decide +kernel
theorem dX5_group_97 : decode cX5_group 97 = .ok (.istore_n 3, 1) := by decide +kernel
theorem dX5_group_98 : decode cX5_group 98 = .ok (.iinc 6 1, 3) := by decide +kernel
theorem dX5_group_101 : decode cX5_group 101 = .ok (.goto (-45), 3) := by decide +kernel
theorem dX5_group_104 : decode cX5_group 104 = .ok (.iinc 5 1, 3) := by decide +kernel
theorem dX5_group_107 : decode cX5_group 107 = .ok (.goto (-63), 3) := by decide +kernel
theorem dX5_group_110 : decode cX5_group 110 = .ok (.goto (-78), 3) := by decide +kernel
theorem dX5_group_113 : decode cX5_group 113 = .ok (.iload_n 3, 1) := by decide +kernel
theorem dX5_group_114 : decode cX5_group 114 = .ok (.ireturn, 1) := by decide +kernel
theorem dX5_count_0 : decode cX5_count 0 = .ok (.iconst 0, 1) := by decide +kernel
theorem dX5_count_1 : decode cX5_count 1 = .ok (.istore_n 2, 1) := by decide +kernel
theorem dX5_count_2 : decode cX5_count 2 = .ok (.iload_n 1, 1) := by decide +kernel
theorem dX5_count_3 : decode cX5_count 3 = .ok (.tableswitch 97 0 5 #[37, 42, 47, 52, 87, 92], 37) := by decide +kernel
theorem dX5_count_40 : decode cX5_count 40 = .ok (.aload_n 0, 1) := by decide +kernel
theorem dX5_count_41 : decode cX5_count 41 = .ok (.getfield 51, 3) := by decide +kernel
theorem dX5_count_44 : decode cX5_count 44 = .ok (.ireturn, 1) := by decide +kernel
theorem dX5_count_45 : decode cX5_count 45 = .ok (.aload_n 0, 1) := by decide +kernel
theorem dX5_count_46 : decode cX5_count 46 = .ok (.getfield 59, 3) := by decide +kernel
theorem dX5_count_49 : decode cX5_count 49 = .ok (.ireturn, 1) := by decide +kernel
theorem dX5_count_50 : decode cX5_count 50 = .ok (.aload_n 0, 1) := by decide +kernel
theorem dX5_count_51 : decode cX5_count 51 = .ok (.getfield 62, 3) := by decide +kernel
theorem dX5_count_54 : decode cX5_count 54 = .ok (.ireturn, 1) := by decide +kernel
theorem dX5_count_55 : decode cX5_count 55 = .ok (.iconst 0, 1) := by decide +kernel
theorem dX5_count_56 : decode cX5_count 56 = .ok (.istore_n 3, 1) := by decide +kernel
theorem dX5_count_57 : decode cX5_count 57 = .ok (.iload_n 3, 1) := by decide +kernel
theorem dX5_count_58 : decode cX5_count 58 = .ok (.aload_n 0, 1) := by decide +kernel
theorem dX5_count_59 : decode cX5_count 59 = .ok (.getfield 51, 3) := by decide +kernel
theorem dX5_count_62 : decode cX5_count 62 = .ok (.if_icmp .ge 26, 3) := by decide +kernel
theorem dX5_count_65 : decode cX5_count 65 = .ok (.iload_n 2, 1) := by decide +kernel
theorem dX5_count_66 : decode cX5_count 66 = .ok (.aload_n 0, 1) := by decide +kernel
theorem dX5_count_67 : decode cX5_count 67 = .ok (.getfield 13, 3) := by decide +kernel
theorem dX5_count_70 : decode cX5_count 70 = .ok (.iload_n 3, 1) := by decide +kernel
theorem dX5_count_71 : decode cX5_count 71 = .ok (.baload, 1) := by decide +kernel
theorem dX5_count_72 : decode cX5_count 72 = .ok (.ifCond .eq 7, 3) := by decide +kernel
theorem dX5_count_75 : decode cX5_count 75 = .ok (.iconst 1, 1) := by decide +kernel
theorem dX5_count_76 : decode cX5_count 76 = .ok (.goto 4, 3) := by decide +kernel
theorem dX5_count_79 : decode cX5_count 79 = .ok (.iconst 0, 1) := by decide +kernel
theorem dX5_count_80 : decode cX5_count 80 = .ok (.iadd, 1) := by decide +kernel
theorem dX5_count_81 : decode cX5_count 81 = .ok (.istore_n 2, 1) := by decide +kernel
theorem dX5_count_82 : decode cX5_count 82 = .ok (.iinc 3 1, 3) := by decide +kernel
theorem dX5_count_85 : decode cX5_count 85 = .ok (.goto (-28), 3) := by decide +kernel
theorem dX5_count_88 : decode cX5_count 88 = .ok (.iload_n 2, 1) := by decide +kernel
theorem dX5_count_89 : decode cX5_count 89 = .ok (.ireturn, 1) := by decide +kernel
theorem dX5_count_90 : decode cX5_count 90 = .ok (.aload_n 0, 1) := by decide +kernel
theorem dX5_count_91 : decode cX5_count 91 = .ok (.getfield 129, 3) := by decide +kernel
theorem dX5_count_94 : decode cX5_count 94 = .ok (.ireturn, 1) := by decide +kernel
theorem dX5_count_95 : decode cX5_count 95 = .ok (.aload_n 0, 1) := by decide +kernel
theorem dX5_count_96 : decode cX5_count 96 = .ok (.getfield 132, 3) := by decide +kernel
theorem dX5_count_99 : decode cX5_count 99 = .ok (.ireturn, 1) := by decide +kernel
theorem dX5_count_100 : decode cX5_count 100 = .ok (.bipush (-102), 2) := by decide +kernel
theorem dX5_count_102 : decode cX5_count 102 = .ok (.ireturn, 1) := by decide +kernel
theorem dX5_mix_0 : decode cX5_mix 0 = .ok (.aload_n 0, 1) := by decide +kernel
theorem dX5_mix_1 : decode cX5_mix 1 = .ok (.ldc2_w 171, 3) := by decide +kernel
theorem dX5_mix_4 : decode cX5_mix 4 = .ok (.aload_n 0, 1) := by decide +kernel
theorem dX5_mix_5 : decode cX5_mix 5 = .ok (.getfield 173, 3) := by decide +kernel
theorem dX5_mix_8 : decode cX5_mix 8 = .ok (.lmul, 1) := by decide +kernel
theorem dX5_mix_9 : decode cX5_mix 9 = .ok (.lload_n 1, 1) := by decide +kernel
theorem dX5_mix_10 : decode cX5_mix 10 = .ok (.ladd, 1) := by decide +kernel
theorem dX5_mix_11 : decode cX5_mix 11 = .ok (.putfield 173, 3) := by decide +kernel
theorem dX5_mix_14 : decode cX5_mix 14 = .ok (.return_, 1) := by decide +kernel
set_option maxRecDepth 20000 in
theorem ggX5_digest_X5_mix : GoodIn wsX5_digest wsX5_mix := goodIn_r _ [19, 20, 2, 21, 22, 23, 24, 25, 26, 27, 28, 29, 30, 31, 32, 33, 34, 35, 36, 37, 38, 39, 40, 41, 42, 43, 44, 45] (by decide +kernel) (by decide +kernel)
set_option maxRecDepth 20000 in
theorem gX5_digest_X5_mix : GoodIn wsX5_digest (wsV RX5 179 RX5 yX5_mix wsX5_mix) := goodIn_app (goodIn_of _ (by decide +kernel)) ggX5_digest_X5_mix
theorem dX5_digest_0 : decode cX5_digest 0 = .ok (.aload_n 0, 1) := by decide +kernel
theorem dX5_digest_1 : decode cX5_digest 1 = .ok (.ldc2_w 177, 3) := by decide +kernel
theorem dX5_digest_4 : decode cX5_digest 4 = .ok (.putfield 173, 3) := by decide +kernel
theorem dX5_digest_7 : decode cX5_digest 7 = .ok (.iconst 0, 1) := by decide +kernel
theorem dX5_digest_8 : decode cX5_digest 8 = .ok (.istore_n 1, 1) := by decide +kernel
theorem dX5_digest_9 : decode cX5_digest 9 = .ok (.iload_n 1, 1) := by decide +kernel
theorem dX5_digest_10 : decode cX5_digest 10 = .ok (.aload_n 0, 1) := by decide +kernel
theorem dX5_digest_11 : decode cX5_digest 11 = .ok (.getfield 51, 3) := by decide +kernel
theorem dX5_digest_14 : decode cX5_digest 14 = .ok (.if_icmp .ge 163, 3) := by decide +kernel
theorem dX5_digest_17 : decode cX5_digest 17 = .ok (.aload_n 0, 1) := by decide +kernel
theorem dX5_digest_18 : decode cX5_digest 18 = .ok (.aload_n 0, 1) := by decide +kernel
theorem dX5_digest_19 : decode cX5_digest 19 = .ok (.getfield 7, 3) := by decide +kernel
theorem dX5_digest_22 : decode cX5_digest 22 = .ok (.iload_n 1, 1) := by decide +kernel
theorem dX5_digest_23 : decode cX5_digest 23 = .ok (.iaload, 1) := by decide +kernel
theorem dX5_digest_24 : decode cX5_digest 24 = .ok (.i2l, 1) := by decide +kernel
theorem dX5_digest_25 : decode cX5_digest 25 = .ok (.invokevirtual 179, 3) := by decide +kernel
theorem dX5_digest_28 : decode cX5_digest 28 = .ok (.aload_n 0, 1) := by decide +kernel
theorem dX5_digest_29 : decode cX5_digest 29 = .ok (.aload_n 0, 1) := by decide +kernel
theorem dX5_digest_30 : decode cX5_digest 30 = .ok (.getfield 13, 3) := by decide +kernel
theorem dX5_digest_33 : decode cX5_digest 33 = .ok (.iload_n 1, 1) := by decide +kernel
theorem dX5_digest_34 : decode cX5_digest 34 = .ok (.baload, 1) := by decide +kernel
theorem dX5_digest_35 : decode cX5_digest 35 = .ok (.ifCond .eq 7, 3) := by decide +kernel
theorem dX5_digest_38 : decode cX5_digest 38 = .ok (.lconst 1, 1) := by decide +kernel
theorem dX5_digest_39 : decode cX5_digest 39 = .ok (.goto 4, 3) := by decide +kernel
theorem dX5_digest_42 : decode cX5_digest 42 = .ok (.lconst 0, 1) := by decide +kernel
theorem dX5_digest_43 : decode cX5_digest 43 = .ok (.invokevirtual 179, 3) := by decide +kernel
theorem dX5_digest_46 : decode cX5_digest 46 = .ok (.iconst 0, 1) := by decide +kernel
theorem dX5_digest_47 : decode cX5_digest 47 = .ok (.istore_n 2, 1) := by decide +kernel
theorem dX5_digest_48 : decode cX5_digest 48 = .ok (.iload_n 2, 1) := by decide +kernel
theorem dX5_digest_49 : decode cX5_digest 49 = .ok (.aload_n 0, 1) := by decide +kernel
theorem dX5_digest_50 : decode cX5_digest 50 = .ok (.getfield 59, 3) := by decide +kernel
theorem dX5_digest_53 : decode cX5_digest 53 = .ok (.if_icmp .ge 25, 3) := by decide +kernel
theorem dX5_digest_56 : decode cX5_digest 56 = .ok (.aload_n 0, 1) := by decide +kernel
theorem dX5_digest_57 : decode cX5_digest 57 = .ok (.aload_n 0, 1) := by decide +kernel
theorem dX5_digest_58 : decode cX5_digest 58 = .ok (.getfield 17, 3) := by decide +kernel
theorem dX5_digest_61 : decode cX5_digest 61 = .ok (.bipush 6, 2) := by decide +kernel
theorem dX5_digest_63 : decode cX5_digest 63 = .ok (.iload_n 1, 1) := by decide +kernel
theorem dX5_digest_64 : decode cX5_digest 64 = .ok (.imul, 1) := by decide +kernel
theorem dX5_digest_65 : decode cX5_digest 65 = .ok (.iload_n 2, 1) := by decide +kernel
theorem dX5_digest_66 : decode cX5_digest 66 = .ok (.iadd, 1) := by decide +kernel
theorem dX5_digest_67 : decode cX5_digest 67 = .ok (.iaload, 1) := by decide +kernel
theorem dX5_digest_68 : decode cX5_digest 68 = .ok (.i2l, 1) := by decide +kernel
theorem dX5_digest_69 : decode cX5_digest 69 = .ok (.invokevirtual 179, 3) := by decide +kernel
theorem dX5_digest_72 : decode cX5_digest 72 = .ok (.iinc 2 1, 3) := by decide +kernel
theorem dX5_digest_75 : decode cX5_digest 75 = .ok (.goto (-27), 3) := by decide +kernel
theorem dX5_digest_78 : decode cX5_digest 78 = .ok (.iconst 0, 1) := by decide +kernel
theorem dX5_digest_79 : decode cX5_digest 79 = .ok (.istore_n 2, 1) := by decide +kernel
theorem dX5_digest_80 : decode cX5_digest 80 = .ok (.iload_n 2, 1) := by decide +kernel
theorem dX5_digest_81 : decode cX5_digest 81 = .ok (.aload_n 0, 1) := by decide +kernel
theorem dX5_digest_82 : decode cX5_digest 82 = .ok (.getfield 59, 3) := by decide +kernel
theorem dX5_digest_85 : decode cX5_digest 85 = .ok (.if_icmp .ge 25, 3) := by decide +kernel
theorem dX5_digest_88 : decode cX5_digest 88 = .ok (.aload_n 0, 1) := by decide +kernel
theorem dX5_digest_89 : decode cX5_digest 89 = .ok (.aload_n 0, 1) := by decide +kernel
theorem dX5_digest_90 : decode cX5_digest 90 = .ok (.getfield 20, 3) := by decide +kernel
theorem dX5_digest_93 : decode cX5_digest 93 = .ok (.bipush 6, 2) := by decide +kernel
theorem dX5_digest_95 : decode cX5_digest 95 = .ok (.iload_n 1, 1) := by decide +kernel
theorem dX5_digest_96 : decode cX5_digest 96 = .ok (.imul, 1) := by decide +kernel
theorem dX5_digest_97 : decode cX5_digest 97 = .ok (.iload_n 2, 1) := by decide +kernel
theorem dX5_digest_98 : decode cX5_digest 98 = .ok (.iadd, 1) := by decide +kernel
theorem dX5_digest_99 : decode cX5_digest 99 = .ok (.iaload, 1) := by decide +kernel
theorem dX5_digest_100 : decode cX5_digest 100 = .ok (.i2l, 1) := by decide +kernel
theorem dX5_digest_101 : decode cX5_digest 101 = .ok (.invokevirtual 179, 3) := by decide +kernel
theorem dX5_digest_104 : decode cX5_digest 104 = .ok (.iinc 2 1, 3) := by decide +kernel
theorem dX5_digest_107 : decode cX5_digest 107 = .ok (.goto (-27), 3) := by decide +kernel
theorem dX5_digest_110 : decode cX5_digest 110 = .ok (.iconst 0, 1) := by decide +kernel
theorem dX5_digest_111 : decode cX5_digest 111 = .ok (.istore_n 2, 1) := by decide +kernel
theorem dX5_digest_112 : decode cX5_digest 112 = .ok (.iload_n 2, 1) := by decide +kernel
theorem dX5_digest_113 : decode cX5_digest 113 = .ok (.aload_n 0, 1) := by decide +kernel
theorem dX5_digest_114 : decode cX5_digest 114 = .ok (.getfield 62, 3) := by decide +kernel
theorem dX5_digest_117 : decode cX5_digest 117 = .ok (.if_icmp .ge 25, 3) := by decide +kernel
theorem dX5_digest_120 : decode cX5_digest 120 = .ok (.aload_n 0, 1) := by decide +kernel
theorem dX5_digest_121 : decode cX5_digest 121 = .ok (.aload_n 0, 1) := by decide +kernel
theorem dX5_digest_122 : decode cX5_digest 122 = .ok (.getfield 23, 3) := by decide +kernel
theorem dX5_digest_125 : decode cX5_digest 125 = .ok (.bipush 6, 2) := by decide +kernel
theorem dX5_digest_127 : decode cX5_digest 127 = .ok (.iload_n 1, 1) := by decide +kernel
theorem dX5_digest_128 : decode cX5_digest 128 = .ok (.imul, 1) := by decide +kernel
theorem dX5_digest_129 : decode cX5_digest 129 = .ok (.iload_n 2, 1) := by decide +kernel
theorem dX5_digest_130 : decode cX5_digest 130 = .ok (.iadd, 1) := by decide +kernel
theorem dX5_digest_131 : decode cX5_digest 131 = .ok (.iaload, 1) := by decide +kernel
theorem dX5_digest_132 : decode cX5_digest 132 = .ok (.i2l, 1) := by decide +kernel
theorem dX5_digest_133 : decode cX5_digest 133 = .ok (.invokevirtual 179, 3) := by decide +kernel
theorem dX5_digest_136 : decode cX5_digest 136 = .ok (.iinc 2 1, 3) := by decide +kernel
theorem dX5_digest_139 : decode cX5_digest 139 = .ok (.goto (-27), 3) := by decide +kernel
theorem dX5_digest_142 : decode cX5_digest 142 = .ok (.iconst 0, 1) := by decide +kernel
theorem dX5_digest_143 : decode cX5_digest 143 = .ok (.istore_n 2, 1) := by decide +kernel
theorem dX5_digest_144 : decode cX5_digest 144 = .ok (.iload_n 2, 1) := by decide +kernel
theorem dX5_digest_145 : decode cX5_digest 145 = .ok (.iload_n 1, 1) := by decide +kernel
theorem dX5_digest_146 : decode cX5_digest 146 = .ok (.if_icmp .ge 25, 3) := by decide +kernel
theorem dX5_digest_149 : decode cX5_digest 149 = .ok (.aload_n 0, 1) := by decide +kernel
theorem dX5_digest_150 : decode cX5_digest 150 = .ok (.aload_n 0, 1) := by decide +kernel
theorem dX5_digest_151 : decode cX5_digest 151 = .ok (.getfield 26, 3) := by decide +kernel
theorem dX5_digest_154 : decode cX5_digest 154 = .ok (.bipush 12, 2) := by decide +kernel
theorem dX5_digest_156 : decode cX5_digest 156 = .ok (.iload_n 1, 1) := by decide +kernel
theorem dX5_digest_157 : decode cX5_digest 157 = .ok (.imul, 1) := by decide +kernel
theorem dX5_digest_158 : decode cX5_digest 158 = .ok (.iload_n 2, 1) := by decide +kernel
theorem dX5_digest_159 : decode cX5_digest 159 = .ok (.iadd, 1) := by decide +kernel
theorem dX5_digest_160 : decode cX5_digest 160 = .ok (.iaload, 1) := by decide +kernel
theorem dX5_digest_161 : decode cX5_digest 161 = .ok (.i2l, 1) := by decide +kernel
theorem dX5_digest_162 : decode cX5_digest 162 = .ok (.invokevirtual 179, 3) := by decide +kernel
theorem dX5_digest_165 : decode cX5_digest 165 = .ok (.iinc 2 1, 3) := by decide +kernel
theorem dX5_digest_168 : decode cX5_digest 168 = .ok (.goto (-24), 3) := by decide +kernel
theorem dX5_digest_171 : decode cX5_digest 171 = .ok (.iinc 1 1, 3) := by decide +kernel
theorem dX5_digest_174 : decode cX5_digest 174 = .ok (.goto (-165), 3) := by decide +kernel
theorem dX5_digest_177 : decode cX5_digest 177 = .ok (.aload_n 0, 1) := by decide +kernel
theorem dX5_digest_178 : decode cX5_digest 178 = .ok (.aload_n 0, 1) := by decide +kernel
theorem dX5_digest_179 : decode cX5_digest 179 = .ok (.getfield 65, 3) := by decide +kernel
theorem dX5_digest_182 : decode cX5_digest 182 = .ok (.i2l, 1) := by decide +kernel
theorem dX5_digest_183 : decode cX5_digest 183 = .ok (.invokevirtual 179, 3) := by decide +kernel
theorem dX5_digest_186 : decode cX5_digest 186 = .ok (.aload_n 0, 1) := by decide +kernel
theorem dX5_digest_187 : decode cX5_digest 187 = .ok (.aload_n 0, 1) := by decide +kernel
theorem dX5_digest_188 : decode cX5_digest 188 = .ok (.getfield 129, 3) := by decide +kernel
theorem dX5_digest_191 : decode cX5_digest 191 = .ok (.i2l, 1) := by decide +kernel
theorem dX5_digest_192 : decode cX5_digest 192 = .ok (.invokevirtual 179, 3) := by decide +kernel
theorem dX5_digest_195 : decode cX5_digest 195 = .ok (.aload_n 0, 1) := by decide +kernel
theorem dX5_digest_196 : decode cX5_digest 196 = .ok (.aload_n 0, 1) := by decide +kernel
theorem dX5_digest_197 : decode cX5_digest 197 = .ok (.getfield 132, 3) := by decide +kernel
theorem dX5_digest_200 : decode cX5_digest 200 = .ok (.i2l, 1) := by decide +kernel
theorem dX5_digest_201 : decode cX5_digest 201 = .ok (.invokevirtual 179, 3) := by decide +kernel
theorem dX5_digest_204 : decode cX5_digest 204 = .ok (.aload_n 0, 1) := by decide +kernel
theorem dX5_digest_205 : decode cX5_digest 205 = .ok (.getfield 173, 3) := by decide +kernel
theorem dX5_digest_208 : decode cX5_digest 208 = .ok (.lreturn, 1) := by decide +kernel
set_option maxRecDepth 20000 in
theorem ggL_law_X4_init : GoodIn wsL_law wsX4_init := goodIn_r _ [9, 10, 11, 12, 13, 14, 15, 16, 17, 18, 19, 20, 21, 22, 23, 24, 25, 26, 27, 28, 29, 30, 31, 32, 33, 34, 35, 36, 37, 38, 39, 40, 41, 42, 43, 44, 45, 46, 47, 48, 49, 50, 51, 52, 53, 54, 55, 56, 57, 58, 59, 60, 61, 62, 63, 64, 65, 66, 67, 68, 69, 655, 656, 657, 658, 659, 660, 661, 626, 627, 628, 629, 662, 663, 664, 665, 666, 667, 668, 669, 670, 671, 672, 673, 674, 675, 676, 677, 678, 679, 680, 681, 682, 683] (by decide +kernel) (by decide +kernel)
set_option maxRecDepth 20000 in
theorem gL_law_X4_init : GoodIn wsL_law (wsX4_init) := ggL_law_X4_init
set_option maxRecDepth 20000 in
theorem ggL_law_X5_init : GoodIn wsL_law wsX5_init := goodIn_r _ [72, 73, 11, 12, 32, 74, 34, 75, 76, 77, 78, 79, 80, 81, 82, 83, 84, 56, 85, 86, 630, 631, 632, 633, 634, 635, 636, 637, 638, 639, 640, 641, 642, 643, 644, 645, 646, 647, 648, 649, 650, 651, 652, 653, 654] (by decide +kernel) (by decide +kernel)
set_option maxRecDepth 20000 in
theorem gL_law_X5_init : GoodIn wsL_law (wsX5_init) := ggL_law_X5_init
set_option maxRecDepth 20000 in
theorem ggL_law_X4_person : GoodIn wsL_law wsX4_person := goodIn_r _ [90, 16, 91, 92, 93, 2, 94, 95, 96, 97, 15, 98, 33, 99, 35, 626, 627, 628, 629, 655, 656, 657, 658, 659, 660, 661] (by decide +kernel) (by decide +kernel)
set_option maxRecDepth 20000 in
theorem gL_law_X4_person : GoodIn wsL_law (wsV RL 13 RX4 yX4_person wsX4_person) := goodIn_app (goodIn_of _ (by decide +kernel)) ggL_law_X4_person
set_option maxRecDepth 20000 in
theorem ggL_law_X5_person : GoodIn wsL_law wsX5_person := goodIn_r _ [103, 104, 74, 75, 105, 106, 5, 107, 630, 631, 632, 633, 634, 635, 636, 637, 638, 639, 640, 641, 642, 643, 644, 645, 646, 647, 648, 649, 650, 651, 652, 653, 654] (by decide +kernel) (by decide +kernel)
set_option maxRecDepth 20000 in
theorem gL_law_X5_person : GoodIn wsL_law (wsV RL 17 RX5 yX5_person wsX5_person) := goodIn_app (goodIn_of _ (by decide +kernel)) ggL_law_X5_person
set_option maxRecDepth 20000 in
theorem ggL_law_X4_question : GoodIn wsL_law wsX4_question := goodIn_r _ [111, 16, 112, 626, 627, 628, 629, 655, 656, 657, 658, 659, 660, 661] (by decide +kernel) (by decide +kernel)
set_option maxRecDepth 20000 in
theorem gL_law_X4_question : GoodIn wsL_law (wsV RL 18 RX4 yX4_question wsX4_question) := goodIn_app (goodIn_of _ (by decide +kernel)) ggL_law_X4_question
set_option maxRecDepth 20000 in
theorem ggL_law_X5_question : GoodIn wsL_law wsX5_question := goodIn_r _ [116, 117, 630, 631, 632, 633, 634, 635, 636, 637, 638, 639, 640, 641, 642, 643, 644, 645, 646, 647, 648, 649, 650, 651, 652, 653, 654] (by decide +kernel) (by decide +kernel)
set_option maxRecDepth 20000 in
theorem gL_law_X5_question : GoodIn wsL_law (wsV RL 22 RX5 yX5_question wsX5_question) := goodIn_app (goodIn_of _ (by decide +kernel)) ggL_law_X5_question
set_option maxRecDepth 20000 in
theorem ggL_law_X4_project : GoodIn wsL_law wsX4_project := goodIn_r _ [121, 28, 122, 626, 627, 628, 629, 679, 680, 681, 682, 683] (by decide +kernel) (by decide +kernel)
set_option maxRecDepth 20000 in
theorem gL_law_X4_project : GoodIn wsL_law (wsV RL 23 RX4 yX4_project wsX4_project) := goodIn_app (goodIn_of _ (by decide +kernel)) ggL_law_X4_project
set_option maxRecDepth 20000 in
theorem ggL_law_X5_project : GoodIn wsL_law wsX5_project := goodIn_r _ [126, 127, 630, 631, 632, 633, 634, 635, 636, 637, 638, 639, 640, 641, 642, 643, 644, 645, 646, 647, 648, 649, 650, 651, 652, 653, 654] (by decide +kernel) (by decide +kernel)
set_option maxRecDepth 20000 in
theorem gL_law_X5_project : GoodIn wsL_law (wsV RL 26 RX5 yX5_project wsX5_project) := goodIn_app (goodIn_of _ (by decide +kernel)) ggL_law_X5_project
set_option maxRecDepth 20000 in
theorem ggL_law_X4_seed : GoodIn wsL_law wsX4_seed := goodIn_r _ [131, 16, 132, 626, 627, 628, 629, 655, 656, 657, 658, 659, 660, 661] (by decide +kernel) (by decide +kernel)
set_option maxRecDepth 20000 in
theorem gL_law_X4_seed : GoodIn wsL_law (wsV RL 27 RX4 yX4_seed wsX4_seed) := goodIn_app (goodIn_of _ (by decide +kernel)) ggL_law_X4_seed
set_option maxRecDepth 20000 in
theorem ggL_law_X5_seed : GoodIn wsL_law wsX5_seed := goodIn_r _ [136, 137, 630, 631, 632, 633, 634, 635, 636, 637, 638, 639, 640, 641, 642, 643, 644, 645, 646, 647, 648, 649, 650, 651, 652, 653, 654] (by decide +kernel) (by decide +kernel)
set_option maxRecDepth 20000 in
theorem gL_law_X5_seed : GoodIn wsL_law (wsV RL 30 RX5 yX5_seed wsX5_seed) := goodIn_app (goodIn_of _ (by decide +kernel)) ggL_law_X5_seed
set_option maxRecDepth 20000 in
theorem ggL_law_X4_vote : GoodIn wsL_law wsX4_vote := goodIn_r _ [141, 16, 142, 143, 144, 145, 146, 15, 147, 99, 148, 149, 150, 151, 152, 92, 93, 2, 94, 153, 154, 155, 156, 37, 626, 627, 628, 629, 655, 656, 657, 658, 659, 660, 661] (by decide +kernel) (by decide +kernel)
set_option maxRecDepth 20000 in
theorem gL_law_X4_vote : GoodIn wsL_law (wsV RL 31 RX4 yX4_vote wsX4_vote) := goodIn_app (goodIn_of _ (by decide +kernel)) ggL_law_X4_vote
set_option maxRecDepth 20000 in
theorem ggL_law_X5_vote : GoodIn wsL_law wsX5_vote := goodIn_r _ [160, 76, 74, 161, 162, 163, 5, 164, 104, 105, 106, 107, 165, 166, 167, 168, 117, 169, 170, 171, 172, 630, 631, 632, 633, 634, 635, 636, 637, 638, 639, 640, 641, 642, 643, 644, 645, 646, 647, 648, 649, 650, 651, 652, 653, 654] (by decide +kernel) (by decide +kernel)
set_option maxRecDepth 20000 in
theorem gL_law_X5_vote : GoodIn wsL_law (wsV RL 35 RX5 yX5_vote wsX5_vote) := goodIn_app (goodIn_of _ (by decide +kernel)) ggL_law_X5_vote
set_option maxRecDepth 20000 in
theorem ggL_law_X4_worth : GoodIn wsL_law wsX4_worth := goodIn_r _ [176, 16, 177, 144, 145, 146, 15, 147, 99, 148, 149, 150, 151, 152, 92, 93, 2, 94, 626, 627, 628, 629, 655, 656, 657, 658, 659, 660, 661] (by decide +kernel) (by decide +kernel)
set_option maxRecDepth 20000 in
theorem gL_law_X4_worth : GoodIn wsL_law (wsV RL 36 RX4 yX4_worth wsX4_worth) := goodIn_app (goodIn_of _ (by decide +kernel)) ggL_law_X4_worth
set_option maxRecDepth 20000 in
theorem ggL_law_X5_worth : GoodIn wsL_law wsX5_worth := goodIn_r _ [181, 77, 161, 162, 163, 5, 164, 104, 105, 106, 107, 165, 166, 167, 168, 117, 630, 631, 632, 633, 634, 635, 636, 637, 638, 639, 640, 641, 642, 643, 644, 645, 646, 647, 648, 649, 650, 651, 652, 653, 654] (by decide +kernel) (by decide +kernel)
set_option maxRecDepth 20000 in
theorem gL_law_X5_worth : GoodIn wsL_law (wsV RL 39 RX5 yX5_worth wsX5_worth) := goodIn_app (goodIn_of _ (by decide +kernel)) ggL_law_X5_worth
set_option maxRecDepth 20000 in
theorem ggL_law_X4_here : GoodIn wsL_law wsX4_here := goodIn_r _ [185, 16, 186, 144, 145, 146, 15, 147, 99, 626, 627, 628, 629, 655, 656, 657, 658, 659, 660, 661] (by decide +kernel) (by decide +kernel)
set_option maxRecDepth 20000 in
theorem gL_law_X4_here : GoodIn wsL_law (wsV RL 40 RX4 yX4_here wsX4_here) := goodIn_app (goodIn_of _ (by decide +kernel)) ggL_law_X4_here
set_option maxRecDepth 20000 in
theorem ggL_law_X5_here : GoodIn wsL_law wsX5_here := goodIn_r _ [190, 75, 161, 162, 163, 5, 164, 104, 105, 106, 107, 630, 631, 632, 633, 634, 635, 636, 637, 638, 639, 640, 641, 642, 643, 644, 645, 646, 647, 648, 649, 650, 651, 652, 653, 654] (by decide +kernel) (by decide +kernel)
set_option maxRecDepth 20000 in
theorem gL_law_X5_here : GoodIn wsL_law (wsV RL 44 RX5 yX5_here wsX5_here) := goodIn_app (goodIn_of _ (by decide +kernel)) ggL_law_X5_here
set_option maxRecDepth 20000 in
theorem ggL_law_X4_voices : GoodIn wsL_law wsX4_voices := goodIn_r _ [194, 16, 142, 144, 145, 146, 15, 147, 99, 148, 149, 150, 151, 152, 626, 627, 628, 629, 655, 656, 657, 658, 659, 660, 661] (by decide +kernel) (by decide +kernel)
set_option maxRecDepth 20000 in
theorem gL_law_X4_voices : GoodIn wsL_law (wsV RL 45 RX4 yX4_voices wsX4_voices) := goodIn_app (goodIn_of _ (by decide +kernel)) ggL_law_X4_voices
set_option maxRecDepth 20000 in
theorem ggL_law_X5_voices : GoodIn wsL_law wsX5_voices := goodIn_r _ [198, 76, 161, 162, 163, 5, 164, 104, 105, 106, 107, 165, 166, 167, 168, 117, 630, 631, 632, 633, 634, 635, 636, 637, 638, 639, 640, 641, 642, 643, 644, 645, 646, 647, 648, 649, 650, 651, 652, 653, 654] (by decide +kernel) (by decide +kernel)
set_option maxRecDepth 20000 in
theorem gL_law_X5_voices : GoodIn wsL_law (wsV RL 49 RX5 yX5_voices wsX5_voices) := goodIn_app (goodIn_of _ (by decide +kernel)) ggL_law_X5_voices
set_option maxRecDepth 20000 in
theorem ggL_law_X4_cost : GoodIn wsL_law wsX4_cost := goodIn_r _ [202, 16, 144, 145, 146, 15, 147, 99, 153, 154, 155, 156, 152, 37, 626, 627, 628, 629, 655, 656, 657, 658, 659, 660, 661] (by decide +kernel) (by decide +kernel)
set_option maxRecDepth 20000 in
theorem gL_law_X4_cost : GoodIn wsL_law (wsV RL 50 RX4 yX4_cost wsX4_cost) := goodIn_app (goodIn_of _ (by decide +kernel)) ggL_law_X4_cost
set_option maxRecDepth 20000 in
theorem ggL_law_X5_cost : GoodIn wsL_law wsX5_cost := goodIn_r _ [206, 161, 162, 163, 5, 164, 104, 105, 106, 107, 169, 170, 171, 172, 117, 76, 630, 631, 632, 633, 634, 635, 636, 637, 638, 639, 640, 641, 642, 643, 644, 645, 646, 647, 648, 649, 650, 651, 652, 653, 654] (by decide +kernel) (by decide +kernel)
set_option maxRecDepth 20000 in
theorem gL_law_X5_cost : GoodIn wsL_law (wsV RL 53 RX5 yX5_cost wsX5_cost) := goodIn_app (goodIn_of _ (by decide +kernel)) ggL_law_X5_cost
set_option maxRecDepth 20000 in
theorem ggL_law_X4_total : GoodIn wsL_law wsX4_total := goodIn_r _ [210, 16, 148, 149, 150, 15, 151, 152, 211, 212, 213, 214, 99, 35, 37, 626, 627, 628, 629, 655, 656, 657, 658, 659, 660, 661] (by decide +kernel) (by decide +kernel)
set_option maxRecDepth 20000 in
theorem gL_law_X4_total : GoodIn wsL_law (wsV RL 54 RX4 yX4_total wsX4_total) := goodIn_app (goodIn_of _ (by decide +kernel)) ggL_law_X4_total
set_option maxRecDepth 20000 in
theorem ggL_law_X5_total : GoodIn wsL_law wsX5_total := goodIn_r _ [218, 165, 166, 167, 5, 168, 117, 105, 106, 107, 219, 220, 221, 222, 104, 75, 76, 630, 631, 632, 633, 634, 635, 636, 637, 638, 639, 640, 641, 642, 643, 644, 645, 646, 647, 648, 649, 650, 651, 652, 653, 654] (by decide +kernel) (by decide +kernel)
set_option maxRecDepth 20000 in
theorem gL_law_X5_total : GoodIn wsL_law (wsV RL 57 RX5 yX5_total wsX5_total) := goodIn_app (goodIn_of _ (by decide +kernel)) ggL_law_X5_total
set_option maxRecDepth 20000 in
theorem ggL_law_X4_result : GoodIn wsL_law wsX4_result := goodIn_r _ [226, 16, 148, 149, 150, 15, 151, 152, 211, 212, 213, 214, 99, 35, 37, 227, 228, 229, 230, 231, 232, 233, 626, 627, 628, 629, 655, 656, 657, 658, 659, 660, 661] (by decide +kernel) (by decide +kernel)
set_option maxRecDepth 20000 in
theorem gL_law_X4_result : GoodIn wsL_law (wsV RL 58 RX4 yX4_result wsX4_result) := goodIn_app (goodIn_of _ (by decide +kernel)) ggL_law_X4_result
set_option maxRecDepth 20000 in
theorem ggL_law_X5_result : GoodIn wsL_law wsX5_result := goodIn_r _ [237, 165, 166, 167, 5, 168, 117, 105, 106, 107, 219, 220, 221, 222, 104, 75, 76, 238, 239, 240, 241, 137, 242, 243, 630, 631, 632, 633, 634, 635, 636, 637, 638, 639, 640, 641, 642, 643, 644, 645, 646, 647, 648, 649, 650, 651, 652, 653, 654] (by decide +kernel) (by decide +kernel)
set_option maxRecDepth 20000 in
theorem gL_law_X5_result : GoodIn wsL_law (wsV RL 61 RX5 yX5_result wsX5_result) := goodIn_app (goodIn_of _ (by decide +kernel)) ggL_law_X5_result
set_option maxRecDepth 20000 in
theorem ggL_law_X4_gain : GoodIn wsL_law wsX4_gain := goodIn_r _ [247, 16, 248, 144, 145, 146, 15, 147, 99, 249, 250, 251, 252, 152, 38, 253, 212, 213, 214, 35, 37, 254, 255, 256, 626, 627, 628, 629, 655, 656, 657, 658, 659, 660, 661] (by decide +kernel) (by decide +kernel)
set_option maxRecDepth 20000 in
theorem gL_law_X4_gain : GoodIn wsL_law (wsV RL 62 RX4 yX4_gain wsX4_gain) := goodIn_app (goodIn_of _ (by decide +kernel)) ggL_law_X4_gain
set_option maxRecDepth 20000 in
theorem ggL_law_X5_gain : GoodIn wsL_law wsX5_gain := goodIn_r _ [260, 261, 161, 162, 163, 5, 164, 104, 105, 106, 107, 262, 263, 264, 265, 117, 77, 219, 220, 221, 222, 75, 76, 266, 267, 268, 630, 631, 632, 633, 634, 635, 636, 637, 638, 639, 640, 641, 642, 643, 644, 645, 646, 647, 648, 649, 650, 651, 652, 653, 654] (by decide +kernel) (by decide +kernel)
set_option maxRecDepth 20000 in
theorem gL_law_X5_gain : GoodIn wsL_law (wsV RL 65 RX5 yX5_gain wsX5_gain) := goodIn_app (goodIn_of _ (by decide +kernel)) ggL_law_X5_gain
set_option maxRecDepth 20000 in
theorem ggL_law_X4_swings : GoodIn wsL_law wsX4_swings := goodIn_r _ [272, 16, 144, 145, 146, 15, 147, 99, 273, 274, 275, 276, 152, 37, 277, 278, 279, 280, 35, 253, 212, 213, 214, 281, 228, 229, 230, 231, 232, 233, 626, 627, 628, 629, 655, 656, 657, 658, 659, 660, 661] (by decide +kernel) (by decide +kernel)
set_option maxRecDepth 20000 in
theorem gL_law_X4_swings : GoodIn wsL_law (wsV RL 66 RX4 yX4_swings wsX4_swings) := goodIn_app (goodIn_of _ (by decide +kernel)) ggL_law_X4_swings
set_option maxRecDepth 20000 in
theorem ggL_law_X5_swings : GoodIn wsL_law wsX5_swings := goodIn_r _ [285, 117, 76, 161, 162, 163, 5, 164, 104, 105, 106, 107, 219, 220, 221, 222, 75, 238, 239, 240, 241, 137, 242, 243, 630, 631, 632, 633, 634, 635, 636, 637, 638, 639, 640, 641, 642, 643, 644, 645, 646, 647, 648, 649, 650, 651, 652, 653, 654] (by decide +kernel) (by decide +kernel)
set_option maxRecDepth 20000 in
theorem gL_law_X5_swings : GoodIn wsL_law (wsV RL 69 RX5 yX5_swings wsX5_swings) := goodIn_app (goodIn_of _ (by decide +kernel)) ggL_law_X5_swings
set_option maxRecDepth 20000 in
theorem ggL_law_X4_best : GoodIn wsL_law wsX4_best := goodIn_r _ [289, 16, 248, 20, 290, 144, 145, 146, 15, 147, 99, 291, 292, 293, 19, 294, 50, 295, 296, 297, 298, 299, 47, 300, 301, 46, 302, 278, 279, 280, 35, 37, 253, 212, 213, 214, 303, 304, 305, 306, 43, 307, 255, 256, 308, 309, 310, 311, 45, 312, 313, 314, 48, 315, 316, 317, 318, 49, 319, 320, 321, 322, 323, 324, 325, 326, 626, 627, 628, 629, 662, 663, 664, 665, 666, 667, 668, 669, 670, 671, 655, 656, 657, 658, 659, 660, 661] (by decide +kernel) (by decide +kernel)
set_option maxRecDepth 20000 in
theorem gL_law_X4_best : GoodIn wsL_law (wsV RL 70 RX4 yX4_best wsX4_best) := goodIn_app (goodIn_of _ (by decide +kernel)) ggL_law_X4_best
set_option maxRecDepth 20000 in
theorem ggL_law_X5_best : GoodIn wsL_law wsX5_best := goodIn_r _ [330, 261, 331, 161, 162, 163, 5, 164, 104, 105, 106, 107, 332, 333, 334, 335, 117, 336, 80, 81, 83, 77, 74, 337, 82, 219, 220, 221, 222, 75, 76, 338, 339, 340, 341, 342, 343, 344, 345, 630, 631, 632, 633, 634, 635, 636, 637, 638, 639, 640, 641, 642, 643, 644, 645, 646, 647, 648, 649, 650, 651, 652, 653, 654] (by decide +kernel) (by decide +kernel)
set_option maxRecDepth 20000 in
theorem gL_law_X5_best : GoodIn wsL_law (wsV RL 73 RX5 yX5_best wsX5_best) := goodIn_app (goodIn_of _ (by decide +kernel)) ggL_law_X5_best
set_option maxRecDepth 20000 in
theorem ggL_law_X4_answer : GoodIn wsL_law wsX4_answer := goodIn_r _ [349, 16, 20, 350, 144, 145, 146, 15, 147, 99, 148, 149, 150, 151, 152, 291, 292, 293, 19, 294, 50, 295, 296, 297, 298, 299, 47, 300, 301, 46, 302, 278, 279, 280, 35, 37, 253, 212, 213, 214, 303, 304, 305, 306, 43, 307, 255, 256, 308, 309, 310, 311, 45, 312, 313, 314, 48, 315, 316, 317, 318, 49, 319, 320, 321, 322, 323, 324, 325, 326, 626, 627, 628, 629, 662, 663, 664, 665, 666, 667, 668, 669, 670, 671, 655, 656, 657, 658, 659, 660, 661] (by decide +kernel) (by decide +kernel)
set_option maxRecDepth 20000 in
theorem gL_law_X4_answer : GoodIn wsL_law (wsV RL 74 RX4 yX4_answer wsX4_answer) := goodIn_app (goodIn_of _ (by decide +kernel)) ggL_law_X4_answer
set_option maxRecDepth 20000 in
theorem ggL_law_X5_answer : GoodIn wsL_law wsX5_answer := goodIn_r _ [354, 82, 161, 162, 163, 5, 164, 104, 105, 106, 107, 165, 166, 167, 168, 117, 332, 333, 334, 335, 336, 80, 81, 83, 77, 74, 331, 337, 219, 220, 221, 222, 75, 76, 338, 339, 340, 341, 342, 343, 344, 345, 630, 631, 632, 633, 634, 635, 636, 637, 638, 639, 640, 641, 642, 643, 644, 645, 646, 647, 648, 649, 650, 651, 652, 653, 654] (by decide +kernel) (by decide +kernel)
set_option maxRecDepth 20000 in
theorem gL_law_X5_answer : GoodIn wsL_law (wsV RL 77 RX5 yX5_answer wsX5_answer) := goodIn_app (goodIn_of _ (by decide +kernel)) ggL_law_X5_answer
set_option maxRecDepth 20000 in
theorem ggL_law_X4_take : GoodIn wsL_law wsX4_take := goodIn_r _ [358, 16, 186, 20, 144, 145, 146, 15, 147, 99, 291, 292, 293, 19, 294, 50, 295, 296, 297, 298, 299, 47, 300, 301, 46, 302, 278, 279, 280, 35, 37, 253, 212, 213, 214, 303, 304, 305, 306, 43, 307, 255, 256, 308, 309, 310, 311, 45, 312, 313, 314, 48, 315, 316, 317, 318, 49, 319, 320, 321, 322, 323, 324, 325, 326, 359, 360, 361, 362, 363, 153, 154, 155, 156, 152, 626, 627, 628, 629, 655, 656, 657, 658, 659, 660, 661, 662, 663, 664, 665, 666, 667, 668, 669, 670, 671] (by decide +kernel) (by decide +kernel)
set_option maxRecDepth 20000 in
theorem gL_law_X4_take : GoodIn wsL_law (wsV RL 78 RX4 yX4_take wsX4_take) := goodIn_app (goodIn_of _ (by decide +kernel)) ggL_law_X4_take
set_option maxRecDepth 20000 in
theorem ggL_law_X5_take : GoodIn wsL_law wsX5_take := goodIn_r _ [367, 75, 161, 162, 163, 5, 164, 104, 105, 106, 107, 332, 333, 334, 335, 117, 336, 80, 81, 83, 77, 74, 331, 337, 82, 219, 220, 221, 222, 76, 338, 339, 340, 341, 342, 343, 344, 345, 368, 369, 370, 371, 169, 170, 171, 172, 630, 631, 632, 633, 634, 635, 636, 637, 638, 639, 640, 641, 642, 643, 644, 645, 646, 647, 648, 649, 650, 651, 652, 653, 654] (by decide +kernel) (by decide +kernel)
set_option maxRecDepth 20000 in
theorem gL_law_X5_take : GoodIn wsL_law (wsV RL 81 RX5 yX5_take wsX5_take) := goodIn_app (goodIn_of _ (by decide +kernel)) ggL_law_X5_take
set_option maxRecDepth 20000 in
theorem ggL_law_X4_play : GoodIn wsL_law wsX4_play := goodIn_r _ [375, 24, 92, 93, 2, 94, 376, 377, 378, 23, 379, 58, 380, 381, 382, 383, 384, 385, 386, 59, 387, 57, 388, 389, 390, 15, 391, 152, 392, 37, 393, 394, 395, 396, 397, 398, 60, 399, 400, 292, 293, 19, 294, 50, 295, 296, 297, 298, 299, 47, 300, 301, 46, 302, 278, 279, 280, 35, 253, 212, 213, 214, 99, 303, 304, 305, 306, 43, 307, 255, 256, 308, 309, 310, 311, 45, 312, 313, 314, 48, 315, 316, 317, 318, 49, 319, 320, 321, 322, 323, 324, 325, 326, 401, 250, 251, 252, 38, 254, 402, 360, 361, 362, 363, 403, 404, 405, 406, 407, 408, 409, 410, 626, 627, 628, 629, 672, 673, 674, 675, 676, 677, 678, 655, 656, 657, 658, 659, 660, 661, 662, 663, 664, 665, 666, 667, 668, 669, 670, 671] (by decide +kernel) (by decide +kernel)
set_option maxRecDepth 20000 in
theorem gL_law_X4_play : GoodIn wsL_law (wsV RL 82 RX4 yX4_play wsX4_play) := goodIn_app (goodIn_of _ (by decide +kernel)) ggL_law_X4_play
set_option maxRecDepth 20000 in
theorem ggL_law_X5_play : GoodIn wsL_law wsX5_play := goodIn_r _ [414, 415, 416, 417, 104, 75, 331, 418, 105, 106, 5, 107, 419, 420, 421, 422, 84, 76, 332, 333, 334, 335, 117, 336, 80, 81, 83, 77, 74, 337, 82, 219, 220, 221, 222, 338, 339, 340, 341, 342, 343, 344, 345, 262, 263, 264, 265, 266, 267, 268, 368, 369, 370, 371, 423, 424, 425, 426, 630, 631, 632, 633, 634, 635, 636, 637, 638, 639, 640, 641, 642, 643, 644, 645, 646, 647, 648, 649, 650, 651, 652, 653, 654] (by decide +kernel) (by decide +kernel)
set_option maxRecDepth 20000 in
theorem gL_law_X5_play : GoodIn wsL_law (wsV RL 85 RX5 yX5_play wsX5_play) := goodIn_app (goodIn_of _ (by decide +kernel)) ggL_law_X5_play
set_option maxRecDepth 20000 in
theorem ggL_law_X4_ended : GoodIn wsL_law wsX4_ended := goodIn_r _ [430, 24, 431, 626, 627, 628, 629, 672, 673, 674, 675, 676, 677, 678] (by decide +kernel) (by decide +kernel)
set_option maxRecDepth 20000 in
theorem gL_law_X4_ended : GoodIn wsL_law (wsV RL 86 RX4 yX4_ended wsX4_ended) := goodIn_app (goodIn_of _ (by decide +kernel)) ggL_law_X4_ended
set_option maxRecDepth 20000 in
theorem ggL_law_X5_ended : GoodIn wsL_law wsX5_ended := goodIn_r _ [435, 415, 630, 631, 632, 633, 634, 635, 636, 637, 638, 639, 640, 641, 642, 643, 644, 645, 646, 647, 648, 649, 650, 651, 652, 653, 654] (by decide +kernel) (by decide +kernel)
set_option maxRecDepth 20000 in
theorem gL_law_X5_ended : GoodIn wsL_law (wsV RL 89 RX5 yX5_ended wsX5_ended) := goodIn_app (goodIn_of _ (by decide +kernel)) ggL_law_X5_ended
set_option maxRecDepth 20000 in
theorem ggL_law_X4_ring : GoodIn wsL_law wsX4_ring := goodIn_r _ [439, 24, 440, 626, 627, 628, 629, 672, 673, 674, 675, 676, 677, 678] (by decide +kernel) (by decide +kernel)
set_option maxRecDepth 20000 in
theorem gL_law_X4_ring : GoodIn wsL_law (wsV RL 90 RX4 yX4_ring wsX4_ring) := goodIn_app (goodIn_of _ (by decide +kernel)) ggL_law_X4_ring
set_option maxRecDepth 20000 in
theorem ggL_law_X5_ring : GoodIn wsL_law wsX5_ring := goodIn_r _ [444, 416, 630, 631, 632, 633, 634, 635, 636, 637, 638, 639, 640, 641, 642, 643, 644, 645, 646, 647, 648, 649, 650, 651, 652, 653, 654] (by decide +kernel) (by decide +kernel)
set_option maxRecDepth 20000 in
theorem gL_law_X5_ring : GoodIn wsL_law (wsV RL 93 RX5 yX5_ring wsX5_ring) := goodIn_app (goodIn_of _ (by decide +kernel)) ggL_law_X5_ring
set_option maxRecDepth 20000 in
theorem ggL_law_X4_gift : GoodIn wsL_law wsX4_gift := goodIn_r _ [448, 16, 28, 449, 450, 144, 145, 146, 15, 147, 99, 451, 452, 453, 27, 454, 455, 92, 93, 2, 94, 626, 627, 628, 629, 679, 680, 681, 682, 683, 655, 656, 657, 658, 659, 660, 661] (by decide +kernel) (by decide +kernel)
set_option maxRecDepth 20000 in
theorem gL_law_X4_gift : GoodIn wsL_law (wsV RL 94 RX4 yX4_gift wsX4_gift) := goodIn_app (goodIn_of _ (by decide +kernel)) ggL_law_X4_gift
set_option maxRecDepth 20000 in
theorem ggL_law_X5_gift : GoodIn wsL_law wsX5_gift := goodIn_r _ [459, 460, 78, 161, 162, 163, 5, 164, 104, 105, 106, 107, 461, 462, 463, 464, 127, 630, 631, 632, 633, 634, 635, 636, 637, 638, 639, 640, 641, 642, 643, 644, 645, 646, 647, 648, 649, 650, 651, 652, 653, 654] (by decide +kernel) (by decide +kernel)
set_option maxRecDepth 20000 in
theorem gL_law_X5_gift : GoodIn wsL_law (wsV RL 97 RX5 yX5_gift wsX5_gift) := goodIn_app (goodIn_of _ (by decide +kernel)) ggL_law_X5_gift
set_option maxRecDepth 20000 in
theorem ggL_law_X4_bond : GoodIn wsL_law wsX4_bond := goodIn_r _ [468, 16, 28, 469, 144, 145, 146, 15, 147, 99, 92, 93, 2, 94, 626, 627, 628, 629, 679, 680, 681, 682, 683, 655, 656, 657, 658, 659, 660, 661] (by decide +kernel) (by decide +kernel)
set_option maxRecDepth 20000 in
theorem gL_law_X4_bond : GoodIn wsL_law (wsV RL 98 RX4 yX4_bond wsX4_bond) := goodIn_app (goodIn_of _ (by decide +kernel)) ggL_law_X4_bond
set_option maxRecDepth 20000 in
theorem ggL_law_X5_bond : GoodIn wsL_law wsX5_bond := goodIn_r _ [473, 79, 161, 162, 163, 5, 164, 104, 105, 106, 107, 630, 631, 632, 633, 634, 635, 636, 637, 638, 639, 640, 641, 642, 643, 644, 645, 646, 647, 648, 649, 650, 651, 652, 653, 654] (by decide +kernel) (by decide +kernel)
set_option maxRecDepth 20000 in
theorem gL_law_X5_bond : GoodIn wsL_law (wsV RL 101 RX5 yX5_bond wsX5_bond) := goodIn_app (goodIn_of _ (by decide +kernel)) ggL_law_X5_bond
set_option maxRecDepth 20000 in
theorem ggL_law_X4_matched : GoodIn wsL_law wsX4_matched := goodIn_r _ [477, 28, 478, 479, 451, 452, 453, 27, 454, 455, 92, 93, 2, 94, 480, 481, 482, 483, 69, 484, 67, 485, 486, 487, 488, 489, 490, 491, 66, 492, 493, 494, 495, 496, 497, 498, 499, 500, 501, 502, 626, 627, 628, 629, 679, 680, 681, 682, 683, 655, 656, 657, 658, 659, 660, 661] (by decide +kernel) (by decide +kernel)
set_option maxRecDepth 20000 in
theorem gL_law_X4_matched : GoodIn wsL_law (wsV RL 102 RX4 yX4_matched wsX4_matched) := goodIn_app (goodIn_of _ (by decide +kernel)) ggL_law_X4_matched
set_option maxRecDepth 20000 in
theorem ggL_law_X5_matched : GoodIn wsL_law wsX5_matched := goodIn_r _ [506, 507, 508, 461, 462, 463, 5, 464, 127, 105, 106, 107, 509, 510, 511, 512, 104, 513, 78, 514, 79, 515, 516, 517, 518, 519, 520, 630, 631, 632, 633, 634, 635, 636, 637, 638, 639, 640, 641, 642, 643, 644, 645, 646, 647, 648, 649, 650, 651, 652, 653, 654] (by decide +kernel) (by decide +kernel)
set_option maxRecDepth 20000 in
theorem gL_law_X5_matched : GoodIn wsL_law (wsV RL 106 RX5 yX5_matched wsX5_matched) := goodIn_app (goodIn_of _ (by decide +kernel)) ggL_law_X5_matched
set_option maxRecDepth 20000 in
theorem ggL_law_X4_share : GoodIn wsL_law wsX4_share := goodIn_r _ [524, 28, 478, 525, 479, 451, 452, 453, 27, 454, 455, 526, 527, 528, 529, 68, 530, 481, 482, 483, 69, 484, 67, 485, 486, 487, 488, 489, 490, 491, 66, 492, 493, 494, 495, 626, 627, 628, 629, 679, 680, 681, 682, 683, 655, 656, 657, 658, 659, 660, 661] (by decide +kernel) (by decide +kernel)
set_option maxRecDepth 20000 in
theorem gL_law_X4_share : GoodIn wsL_law (wsV RL 109 RX4 yX4_share wsX4_share) := goodIn_app (goodIn_of _ (by decide +kernel)) ggL_law_X4_share
set_option maxRecDepth 20000 in
theorem ggL_law_X5_share : GoodIn wsL_law wsX5_share := goodIn_r _ [534, 507, 535, 508, 127, 85, 86, 536, 461, 462, 463, 5, 464, 105, 106, 107, 509, 510, 511, 512, 104, 513, 78, 514, 79, 515, 516, 517, 518, 519, 520, 630, 631, 632, 633, 634, 635, 636, 637, 638, 639, 640, 641, 642, 643, 644, 645, 646, 647, 648, 649, 650, 651, 652, 653, 654] (by decide +kernel) (by decide +kernel)
set_option maxRecDepth 20000 in
theorem gL_law_X5_share : GoodIn wsL_law (wsV RL 113 RX5 yX5_share wsX5_share) := goodIn_app (goodIn_of _ (by decide +kernel)) ggL_law_X5_share
set_option maxRecDepth 20000 in
theorem ggL_law_X4_damped : GoodIn wsL_law wsX4_damped := goodIn_r _ [540, 28, 478, 451, 452, 453, 27, 454, 455, 541, 542, 543, 544, 69, 484, 545, 485, 486, 487, 488, 489, 490, 491, 66, 492, 493, 494, 495, 480, 481, 482, 483, 67, 626, 627, 628, 629, 679, 680, 681, 682, 683, 655, 656, 657, 658, 659, 660, 661] (by decide +kernel) (by decide +kernel)
set_option maxRecDepth 20000 in
theorem gL_law_X4_damped : GoodIn wsL_law (wsV RL 114 RX4 yX4_damped wsX4_damped) := goodIn_app (goodIn_of _ (by decide +kernel)) ggL_law_X4_damped
set_option maxRecDepth 20000 in
theorem ggL_law_X5_damped : GoodIn wsL_law wsX5_damped := goodIn_r _ [549, 507, 461, 462, 463, 5, 464, 127, 105, 106, 107, 509, 510, 511, 512, 104, 513, 78, 514, 79, 515, 516, 517, 518, 519, 520, 630, 631, 632, 633, 634, 635, 636, 637, 638, 639, 640, 641, 642, 643, 644, 645, 646, 647, 648, 649, 650, 651, 652, 653, 654] (by decide +kernel) (by decide +kernel)
set_option maxRecDepth 20000 in
theorem gL_law_X5_damped : GoodIn wsL_law (wsV RL 118 RX5 yX5_damped wsX5_damped) := goodIn_app (goodIn_of _ (by decide +kernel)) ggL_law_X5_damped
set_option maxRecDepth 20000 in
theorem ggL_law_X4_likeness : GoodIn wsL_law wsX4_likeness := goodIn_r _ [553, 16, 144, 145, 146, 15, 147, 99, 554, 555, 556, 557, 152, 37, 558, 559, 154, 155, 156, 626, 627, 628, 629, 655, 656, 657, 658, 659, 660, 661] (by decide +kernel) (by decide +kernel)
set_option maxRecDepth 20000 in
theorem gL_law_X4_likeness : GoodIn wsL_law (wsV RL 119 RX4 yX4_likeness wsX4_likeness) := goodIn_app (goodIn_of _ (by decide +kernel)) ggL_law_X4_likeness
set_option maxRecDepth 20000 in
theorem ggL_law_X5_likeness : GoodIn wsL_law wsX5_likeness := goodIn_r _ [563, 161, 162, 163, 5, 164, 104, 105, 106, 107, 564, 565, 566, 567, 117, 76, 514, 169, 170, 171, 172, 630, 631, 632, 633, 634, 635, 636, 637, 638, 639, 640, 641, 642, 643, 644, 645, 646, 647, 648, 649, 650, 651, 652, 653, 654] (by decide +kernel) (by decide +kernel)
set_option maxRecDepth 20000 in
theorem gL_law_X5_likeness : GoodIn wsL_law (wsV RL 122 RX5 yX5_likeness wsX5_likeness) := goodIn_app (goodIn_of _ (by decide +kernel)) ggL_law_X5_likeness
set_option maxRecDepth 20000 in
theorem ggL_law_X4_group : GoodIn wsL_law wsX4_group := goodIn_r _ [571, 16, 144, 145, 146, 15, 147, 99, 92, 93, 2, 94, 572, 573, 574, 575, 576, 577, 578, 579, 580, 555, 556, 557, 152, 37, 558, 559, 154, 155, 156, 626, 627, 628, 629, 655, 656, 657, 658, 659, 660, 661] (by decide +kernel) (by decide +kernel)
set_option maxRecDepth 20000 in
theorem gL_law_X4_group : GoodIn wsL_law (wsV RL 123 RX4 yX4_group wsX4_group) := goodIn_app (goodIn_of _ (by decide +kernel)) ggL_law_X4_group
set_option maxRecDepth 20000 in
theorem ggL_law_X5_group : GoodIn wsL_law wsX5_group := goodIn_r _ [584, 104, 161, 162, 163, 5, 164, 105, 106, 107, 564, 565, 566, 567, 117, 76, 514, 169, 170, 171, 172, 630, 631, 632, 633, 634, 635, 636, 637, 638, 639, 640, 641, 642, 643, 644, 645, 646, 647, 648, 649, 650, 651, 652, 653, 654] (by decide +kernel) (by decide +kernel)
set_option maxRecDepth 20000 in
theorem gL_law_X5_group : GoodIn wsL_law (wsV RL 126 RX5 yX5_group wsX5_group) := goodIn_app (goodIn_of _ (by decide +kernel)) ggL_law_X5_group
set_option maxRecDepth 20000 in
theorem ggL_law_X4_count : GoodIn wsL_law wsX4_count := goodIn_r _ [588, 16, 91, 112, 28, 122, 24, 589, 590, 591, 592, 593, 15, 594, 99, 35, 626, 627, 628, 629, 655, 656, 657, 658, 659, 660, 661, 679, 680, 681, 682, 683, 672, 673, 674, 675, 676, 677, 678] (by decide +kernel) (by decide +kernel)
set_option maxRecDepth 20000 in
theorem gL_law_X4_count : GoodIn wsL_law (wsV RL 127 RX4 yX4_count wsX4_count) := goodIn_app (goodIn_of _ (by decide +kernel)) ggL_law_X4_count
set_option maxRecDepth 20000 in
theorem ggL_law_X5_count : GoodIn wsL_law wsX5_count := goodIn_r _ [598, 104, 117, 127, 75, 417, 418, 630, 631, 632, 633, 634, 635, 636, 637, 638, 639, 640, 641, 642, 643, 644, 645, 646, 647, 648, 649, 650, 651, 652, 653, 654] (by decide +kernel) (by decide +kernel)
set_option maxRecDepth 20000 in
theorem gL_law_X5_count : GoodIn wsL_law (wsV RL 130 RX5 yX5_count wsX5_count) := goodIn_app (goodIn_of _ (by decide +kernel)) ggL_law_X5_count
set_option maxRecDepth 20000 in
theorem ggL_law_X4_digest : GoodIn wsL_law wsX4_digest := goodIn_r _ [602, 603, 16, 91, 28, 604, 132, 24, 589, 590, 605, 606, 607, 15, 608, 609, 33, 35, 152, 37, 38, 610, 611, 612, 27, 613, 455, 614, 66, 67, 626, 627, 628, 629, 655, 656, 657, 658, 659, 660, 661, 672, 673, 674, 675, 676, 677, 678, 679, 680, 681, 682, 683] (by decide +kernel) (by decide +kernel)
set_option maxRecDepth 20000 in
theorem gL_law_X4_digest : GoodIn wsL_law (wsV RL 131 RX4 yX4_digest wsX4_digest) := goodIn_app (goodIn_of _ (by decide +kernel)) ggL_law_X4_digest
set_option maxRecDepth 20000 in
theorem ggL_law_X5_digest : GoodIn wsL_law wsX5_digest := goodIn_r _ [618, 619, 620, 104, 74, 75, 117, 76, 77, 127, 78, 79, 137, 417, 418, 621, 622, 623, 5, 624, 625, 630, 631, 632, 633, 634, 635, 636, 637, 638, 639, 640, 641, 642, 643, 644, 645, 646, 647, 648, 649, 650, 651, 652, 653, 654] (by decide +kernel) (by decide +kernel)
set_option maxRecDepth 20000 in
theorem gL_law_X5_digest : GoodIn wsL_law (wsV RL 135 RX5 yX5_digest wsX5_digest) := goodIn_app (goodIn_of _ (by decide +kernel)) ggL_law_X5_digest
theorem dL_law_0 : decode cL_law 0 = .ok (.new 7, 3) := by decide +kernel
theorem dL_law_3 : decode cL_law 3 = .ok (.dup, 1) := by decide +kernel
theorem dL_law_4 : decode cL_law 4 = .ok (.invokespecial 9, 3) := by decide +kernel
theorem dL_law_7 : decode cL_law 7 = .ok (.astore_n 1, 1) := by decide +kernel
theorem dL_law_8 : decode cL_law 8 = .ok (.new 10, 3) := by decide +kernel
theorem dL_law_11 : decode cL_law 11 = .ok (.dup, 1) := by decide +kernel
theorem dL_law_12 : decode cL_law 12 = .ok (.invokespecial 12, 3) := by decide +kernel
theorem dL_law_15 : decode cL_law 15 = .ok (.astore_n 2, 1) := by decide +kernel
theorem dL_law_16 : decode cL_law 16 = .ok (.iconst 0, 1) := by decide +kernel
theorem dL_law_17 : decode cL_law 17 = .ok (.istore_n 3, 1) := by decide +kernel
theorem dL_law_18 : decode cL_law 18 = .ok (.iload_n 3, 1) := by decide +kernel
theorem dL_law_19 : decode cL_law 19 = .ok (.aload_n 0, 1) := by decide +kernel
theorem dL_law_20 : decode cL_law 20 = .ok (.arraylength, 1) := by decide +kernel
theorem dL_law_21 : decode cL_law 21 = .ok (.iconst 4, 1) := by decide +kernel
theorem dL_law_22 : decode cL_law 22 = .ok (.isub, 1) := by decide +kernel
theorem dL_law_23 : decode cL_law 23 = .ok (.if_icmp .gt 937, 3) := by decide +kernel
theorem dL_law_26 : decode cL_law 26 = .ok (.aload_n 0, 1) := by decide +kernel
theorem dL_law_27 : decode cL_law 27 = .ok (.iload_n 3, 1) := by decide +kernel
theorem dL_law_28 : decode cL_law 28 = .ok (.iaload, 1) := by decide +kernel
theorem dL_law_29 : decode cL_law 29 = .ok (.bipush 31, 2) := by decide +kernel
theorem dL_law_31 : decode cL_law 31 = .ok (.iand, 1) := by decide +kernel
theorem dL_law_32 : decode cL_law 32 = .ok (.tableswitch 922 0 27 #[128, 151, 164, 177, 200, 243, 286, 335, 368, 391, 414, 437, 460, 483, 506, 539, 562, 585, 598, 611, 654, 697, 731, 795, 819, 852, 885, 908], 128) := by decide +kernel
theorem dL_law_160 : decode cL_law 160 = .ok (.aload_n 1, 1) := by decide +kernel
theorem dL_law_161 : decode cL_law 161 = .ok (.aload_n 0, 1) := by decide +kernel
theorem dL_law_162 : decode cL_law 162 = .ok (.iload_n 3, 1) := by decide +kernel
theorem dL_law_163 : decode cL_law 163 = .ok (.iconst 1, 1) := by decide +kernel
theorem dL_law_164 : decode cL_law 164 = .ok (.iadd, 1) := by decide +kernel
theorem dL_law_165 : decode cL_law 165 = .ok (.iaload, 1) := by decide +kernel
theorem dL_law_166 : decode cL_law 166 = .ok (.invokevirtual 13, 3) := by decide +kernel
theorem dL_law_169 : decode cL_law 169 = .ok (.aload_n 2, 1) := by decide +kernel
theorem dL_law_170 : decode cL_law 170 = .ok (.aload_n 0, 1) := by decide +kernel
theorem dL_law_171 : decode cL_law 171 = .ok (.iload_n 3, 1) := by decide +kernel
theorem dL_law_172 : decode cL_law 172 = .ok (.iconst 1, 1) := by decide +kernel
theorem dL_law_173 : decode cL_law 173 = .ok (.iadd, 1) := by decide +kernel
theorem dL_law_174 : decode cL_law 174 = .ok (.iaload, 1) := by decide +kernel
theorem dL_law_175 : decode cL_law 175 = .ok (.invokevirtual 17, 3) := by decide +kernel
theorem dL_law_178 : decode cL_law 178 = .ok (.if_icmp .eq 776, 3) := by decide +kernel
theorem dL_law_181 : decode cL_law 181 = .ok (.iconst 0, 1) := by decide +kernel
theorem dL_law_182 : decode cL_law 182 = .ok (.ireturn, 1) := by decide +kernel
theorem dL_law_183 : decode cL_law 183 = .ok (.aload_n 1, 1) := by decide +kernel
theorem dL_law_184 : decode cL_law 184 = .ok (.invokevirtual 18, 3) := by decide +kernel
theorem dL_law_187 : decode cL_law 187 = .ok (.aload_n 2, 1) := by decide +kernel
theorem dL_law_188 : decode cL_law 188 = .ok (.invokevirtual 22, 3) := by decide +kernel
theorem dL_law_191 : decode cL_law 191 = .ok (.if_icmp .eq 763, 3) := by decide +kernel
theorem dL_law_194 : decode cL_law 194 = .ok (.iconst 0, 1) := by decide +kernel
theorem dL_law_195 : decode cL_law 195 = .ok (.ireturn, 1) := by decide +kernel
theorem dL_law_196 : decode cL_law 196 = .ok (.aload_n 1, 1) := by decide +kernel
theorem dL_law_197 : decode cL_law 197 = .ok (.invokevirtual 23, 3) := by decide +kernel
theorem dL_law_200 : decode cL_law 200 = .ok (.aload_n 2, 1) := by decide +kernel
theorem dL_law_201 : decode cL_law 201 = .ok (.invokevirtual 26, 3) := by decide +kernel
theorem dL_law_204 : decode cL_law 204 = .ok (.if_icmp .eq 750, 3) := by decide +kernel
theorem dL_law_207 : decode cL_law 207 = .ok (.iconst 0, 1) := by decide +kernel
theorem dL_law_208 : decode cL_law 208 = .ok (.ireturn, 1) := by decide +kernel
theorem dL_law_209 : decode cL_law 209 = .ok (.aload_n 1, 1) := by decide +kernel
theorem dL_law_210 : decode cL_law 210 = .ok (.aload_n 0, 1) := by decide +kernel
theorem dL_law_211 : decode cL_law 211 = .ok (.iload_n 3, 1) := by decide +kernel
theorem dL_law_212 : decode cL_law 212 = .ok (.iconst 1, 1) := by decide +kernel
theorem dL_law_213 : decode cL_law 213 = .ok (.iadd, 1) := by decide +kernel
theorem dL_law_214 : decode cL_law 214 = .ok (.iaload, 1) := by decide +kernel
theorem dL_law_215 : decode cL_law 215 = .ok (.invokevirtual 27, 3) := by decide +kernel
theorem dL_law_218 : decode cL_law 218 = .ok (.aload_n 2, 1) := by decide +kernel
theorem dL_law_219 : decode cL_law 219 = .ok (.aload_n 0, 1) := by decide +kernel
theorem dL_law_220 : decode cL_law 220 = .ok (.iload_n 3, 1) := by decide +kernel
theorem dL_law_221 : decode cL_law 221 = .ok (.iconst 1, 1) := by decide +kernel
theorem dL_law_222 : decode cL_law 222 = .ok (.iadd, 1) := by decide +kernel
theorem dL_law_223 : decode cL_law 223 = .ok (.iaload, 1) := by decide +kernel
theorem dL_law_224 : decode cL_law 224 = .ok (.invokevirtual 30, 3) := by decide +kernel
theorem dL_law_227 : decode cL_law 227 = .ok (.if_icmp .eq 727, 3) := by decide +kernel
theorem dL_law_230 : decode cL_law 230 = .ok (.iconst 0, 1) := by decide +kernel
theorem dL_law_231 : decode cL_law 231 = .ok (.ireturn, 1) := by decide +kernel
theorem dL_law_232 : decode cL_law 232 = .ok (.aload_n 1, 1) := by decide +kernel
theorem dL_law_233 : decode cL_law 233 = .ok (.aload_n 0, 1) := by decide +kernel
theorem dL_law_234 : decode cL_law 234 = .ok (.iload_n 3, 1) := by decide +kernel
theorem dL_law_235 : decode cL_law 235 = .ok (.iconst 1, 1) := by decide +kernel
theorem dL_law_236 : decode cL_law 236 = .ok (.iadd, 1) := by decide +kernel
theorem dL_law_237 : decode cL_law 237 = .ok (.iaload, 1) := by decide +kernel
theorem dL_law_238 : decode cL_law 238 = .ok (.aload_n 0, 1) := by decide +kernel
theorem dL_law_239 : decode cL_law 239 = .ok (.iload_n 3, 1) := by decide +kernel
theorem dL_law_240 : decode cL_law 240 = .ok (.iconst 2, 1) := by decide +kernel
theorem dL_law_241 : decode cL_law 241 = .ok (.iadd, 1) := by decide +kernel
theorem dL_law_242 : decode cL_law 242 = .ok (.iaload, 1) := by decide +kernel
theorem dL_law_243 : decode cL_law 243 = .ok (.aload_n 0, 1) := by decide +kernel
theorem dL_law_244 : decode cL_law 244 = .ok (.iload_n 3, 1) := by decide +kernel
theorem dL_law_245 : decode cL_law 245 = .ok (.iconst 3, 1) := by decide +kernel
theorem dL_law_246 : decode cL_law 246 = .ok (.iadd, 1) := by decide +kernel
theorem dL_law_247 : decode cL_law 247 = .ok (.iaload, 1) := by decide +kernel
theorem dL_law_248 : decode cL_law 248 = .ok (.invokevirtual 31, 3) := by decide +kernel
theorem dL_law_251 : decode cL_law 251 = .ok (.aload_n 2, 1) := by decide +kernel
theorem dL_law_252 : decode cL_law 252 = .ok (.aload_n 0, 1) := by decide +kernel
theorem dL_law_253 : decode cL_law 253 = .ok (.iload_n 3, 1) := by decide +kernel
theorem dL_law_254 : decode cL_law 254 = .ok (.iconst 1, 1) := by decide +kernel
theorem dL_law_255 : decode cL_law 255 = .ok (.iadd, 1) := by decide +kernel
theorem dL_law_256 : decode cL_law 256 = .ok (.iaload, 1) := by decide +kernel
theorem dL_law_257 : decode cL_law 257 = .ok (.aload_n 0, 1) := by decide +kernel
theorem dL_law_258 : decode cL_law 258 = .ok (.iload_n 3, 1) := by decide +kernel
theorem dL_law_259 : decode cL_law 259 = .ok (.iconst 2, 1) := by decide +kernel
theorem dL_law_260 : decode cL_law 260 = .ok (.iadd, 1) := by decide +kernel
theorem dL_law_261 : decode cL_law 261 = .ok (.iaload, 1) := by decide +kernel
theorem dL_law_262 : decode cL_law 262 = .ok (.aload_n 0, 1) := by decide +kernel
theorem dL_law_263 : decode cL_law 263 = .ok (.iload_n 3, 1) := by decide +kernel
theorem dL_law_264 : decode cL_law 264 = .ok (.iconst 3, 1) := by decide +kernel
theorem dL_law_265 : decode cL_law 265 = .ok (.iadd, 1) := by decide +kernel
theorem dL_law_266 : decode cL_law 266 = .ok (.iaload, 1) := by decide +kernel
theorem dL_law_267 : decode cL_law 267 = .ok (.invokevirtual 35, 3) := by decide +kernel
theorem dL_law_270 : decode cL_law 270 = .ok (.if_icmp .eq 684, 3) := by decide +kernel
theorem dL_law_273 : decode cL_law 273 = .ok (.iconst 0, 1) := by decide +kernel
theorem dL_law_274 : decode cL_law 274 = .ok (.ireturn, 1) := by decide +kernel
theorem dL_law_275 : decode cL_law 275 = .ok (.aload_n 1, 1) := by decide +kernel
theorem dL_law_276 : decode cL_law 276 = .ok (.aload_n 0, 1) := by decide +kernel
theorem dL_law_277 : decode cL_law 277 = .ok (.iload_n 3, 1) := by decide +kernel
theorem dL_law_278 : decode cL_law 278 = .ok (.iconst 1, 1) := by decide +kernel
theorem dL_law_279 : decode cL_law 279 = .ok (.iadd, 1) := by decide +kernel
theorem dL_law_280 : decode cL_law 280 = .ok (.iaload, 1) := by decide +kernel
theorem dL_law_281 : decode cL_law 281 = .ok (.aload_n 0, 1) := by decide +kernel
theorem dL_law_282 : decode cL_law 282 = .ok (.iload_n 3, 1) := by decide +kernel
theorem dL_law_283 : decode cL_law 283 = .ok (.iconst 2, 1) := by decide +kernel
theorem dL_law_284 : decode cL_law 284 = .ok (.iadd, 1) := by decide +kernel
theorem dL_law_285 : decode cL_law 285 = .ok (.iaload, 1) := by decide +kernel
theorem dL_law_286 : decode cL_law 286 = .ok (.aload_n 0, 1) := by decide +kernel
theorem dL_law_287 : decode cL_law 287 = .ok (.iload_n 3, 1) := by decide +kernel
theorem dL_law_288 : decode cL_law 288 = .ok (.iconst 3, 1) := by decide +kernel
theorem dL_law_289 : decode cL_law 289 = .ok (.iadd, 1) := by decide +kernel
theorem dL_law_290 : decode cL_law 290 = .ok (.iaload, 1) := by decide +kernel
theorem dL_law_291 : decode cL_law 291 = .ok (.invokevirtual 36, 3) := by decide +kernel
theorem dL_law_294 : decode cL_law 294 = .ok (.aload_n 2, 1) := by decide +kernel
theorem dL_law_295 : decode cL_law 295 = .ok (.aload_n 0, 1) := by decide +kernel
theorem dL_law_296 : decode cL_law 296 = .ok (.iload_n 3, 1) := by decide +kernel
theorem dL_law_297 : decode cL_law 297 = .ok (.iconst 1, 1) := by decide +kernel
theorem dL_law_298 : decode cL_law 298 = .ok (.iadd, 1) := by decide +kernel
theorem dL_law_299 : decode cL_law 299 = .ok (.iaload, 1) := by decide +kernel
theorem dL_law_300 : decode cL_law 300 = .ok (.aload_n 0, 1) := by decide +kernel
theorem dL_law_301 : decode cL_law 301 = .ok (.iload_n 3, 1) := by decide +kernel
theorem dL_law_302 : decode cL_law 302 = .ok (.iconst 2, 1) := by decide +kernel
theorem dL_law_303 : decode cL_law 303 = .ok (.iadd, 1) := by decide +kernel
theorem dL_law_304 : decode cL_law 304 = .ok (.iaload, 1) := by decide +kernel
theorem dL_law_305 : decode cL_law 305 = .ok (.aload_n 0, 1) := by decide +kernel
theorem dL_law_306 : decode cL_law 306 = .ok (.iload_n 3, 1) := by decide +kernel
theorem dL_law_307 : decode cL_law 307 = .ok (.iconst 3, 1) := by decide +kernel
theorem dL_law_308 : decode cL_law 308 = .ok (.iadd, 1) := by decide +kernel
theorem dL_law_309 : decode cL_law 309 = .ok (.iaload, 1) := by decide +kernel
theorem dL_law_310 : decode cL_law 310 = .ok (.invokevirtual 39, 3) := by decide +kernel
theorem dL_law_313 : decode cL_law 313 = .ok (.if_icmp .eq 641, 3) := by decide +kernel
theorem dL_law_316 : decode cL_law 316 = .ok (.iconst 0, 1) := by decide +kernel
theorem dL_law_317 : decode cL_law 317 = .ok (.ireturn, 1) := by decide +kernel
theorem dL_law_318 : decode cL_law 318 = .ok (.aload_n 1, 1) := by decide +kernel
theorem dL_law_319 : decode cL_law 319 = .ok (.aload_n 0, 1) := by decide +kernel
theorem dL_law_320 : decode cL_law 320 = .ok (.iload_n 3, 1) := by decide +kernel
theorem dL_law_321 : decode cL_law 321 = .ok (.iconst 1, 1) := by decide +kernel
theorem dL_law_322 : decode cL_law 322 = .ok (.iadd, 1) := by decide +kernel
theorem dL_law_323 : decode cL_law 323 = .ok (.iaload, 1) := by decide +kernel
theorem dL_law_324 : decode cL_law 324 = .ok (.aload_n 0, 1) := by decide +kernel
theorem dL_law_325 : decode cL_law 325 = .ok (.iload_n 3, 1) := by decide +kernel
theorem dL_law_326 : decode cL_law 326 = .ok (.iconst 2, 1) := by decide +kernel
theorem dL_law_327 : decode cL_law 327 = .ok (.iadd, 1) := by decide +kernel
theorem dL_law_328 : decode cL_law 328 = .ok (.iaload, 1) := by decide +kernel
theorem dL_law_329 : decode cL_law 329 = .ok (.ifCond .eq 7, 3) := by decide +kernel
theorem dL_law_332 : decode cL_law 332 = .ok (.iconst 1, 1) := by decide +kernel
theorem dL_law_333 : decode cL_law 333 = .ok (.goto 4, 3) := by decide +kernel
theorem dL_law_336 : decode cL_law 336 = .ok (.iconst 0, 1) := by decide +kernel
theorem dL_law_337 : decode cL_law 337 = .ok (.invokevirtual 40, 3) := by decide +kernel
theorem dL_law_340 : decode cL_law 340 = .ok (.aload_n 2, 1) := by decide +kernel
theorem dL_law_341 : decode cL_law 341 = .ok (.aload_n 0, 1) := by decide +kernel
theorem dL_law_342 : decode cL_law 342 = .ok (.iload_n 3, 1) := by decide +kernel
theorem dL_law_343 : decode cL_law 343 = .ok (.iconst 1, 1) := by decide +kernel
theorem dL_law_344 : decode cL_law 344 = .ok (.iadd, 1) := by decide +kernel
theorem dL_law_345 : decode cL_law 345 = .ok (.iaload, 1) := by decide +kernel
theorem dL_law_346 : decode cL_law 346 = .ok (.aload_n 0, 1) := by decide +kernel
theorem dL_law_347 : decode cL_law 347 = .ok (.iload_n 3, 1) := by decide +kernel
theorem dL_law_348 : decode cL_law 348 = .ok (.iconst 2, 1) := by decide +kernel
theorem dL_law_349 : decode cL_law 349 = .ok (.iadd, 1) := by decide +kernel
theorem dL_law_350 : decode cL_law 350 = .ok (.iaload, 1) := by decide +kernel
theorem dL_law_351 : decode cL_law 351 = .ok (.ifCond .eq 7, 3) := by decide +kernel
theorem dL_law_354 : decode cL_law 354 = .ok (.iconst 1, 1) := by decide +kernel
theorem dL_law_355 : decode cL_law 355 = .ok (.goto 4, 3) := by decide +kernel
theorem dL_law_358 : decode cL_law 358 = .ok (.iconst 0, 1) := by decide +kernel
theorem dL_law_359 : decode cL_law 359 = .ok (.invokevirtual 44, 3) := by decide +kernel
theorem dL_law_362 : decode cL_law 362 = .ok (.if_icmp .eq 592, 3) := by decide +kernel
theorem dL_law_365 : decode cL_law 365 = .ok (.iconst 0, 1) := by decide +kernel
theorem dL_law_366 : decode cL_law 366 = .ok (.ireturn, 1) := by decide +kernel
theorem dL_law_367 : decode cL_law 367 = .ok (.aload_n 1, 1) := by decide +kernel
theorem dL_law_368 : decode cL_law 368 = .ok (.aload_n 0, 1) := by decide +kernel
theorem dL_law_369 : decode cL_law 369 = .ok (.iload_n 3, 1) := by decide +kernel
theorem dL_law_370 : decode cL_law 370 = .ok (.iconst 1, 1) := by decide +kernel
theorem dL_law_371 : decode cL_law 371 = .ok (.iadd, 1) := by decide +kernel
theorem dL_law_372 : decode cL_law 372 = .ok (.iaload, 1) := by decide +kernel
theorem dL_law_373 : decode cL_law 373 = .ok (.aload_n 0, 1) := by decide +kernel
theorem dL_law_374 : decode cL_law 374 = .ok (.iload_n 3, 1) := by decide +kernel
theorem dL_law_375 : decode cL_law 375 = .ok (.iconst 2, 1) := by decide +kernel
theorem dL_law_376 : decode cL_law 376 = .ok (.iadd, 1) := by decide +kernel
theorem dL_law_377 : decode cL_law 377 = .ok (.iaload, 1) := by decide +kernel
theorem dL_law_378 : decode cL_law 378 = .ok (.invokevirtual 45, 3) := by decide +kernel
theorem dL_law_381 : decode cL_law 381 = .ok (.aload_n 2, 1) := by decide +kernel
theorem dL_law_382 : decode cL_law 382 = .ok (.aload_n 0, 1) := by decide +kernel
theorem dL_law_383 : decode cL_law 383 = .ok (.iload_n 3, 1) := by decide +kernel
theorem dL_law_384 : decode cL_law 384 = .ok (.iconst 1, 1) := by decide +kernel
theorem dL_law_385 : decode cL_law 385 = .ok (.iadd, 1) := by decide +kernel
theorem dL_law_386 : decode cL_law 386 = .ok (.iaload, 1) := by decide +kernel
theorem dL_law_387 : decode cL_law 387 = .ok (.aload_n 0, 1) := by decide +kernel
theorem dL_law_388 : decode cL_law 388 = .ok (.iload_n 3, 1) := by decide +kernel
theorem dL_law_389 : decode cL_law 389 = .ok (.iconst 2, 1) := by decide +kernel
theorem dL_law_390 : decode cL_law 390 = .ok (.iadd, 1) := by decide +kernel
theorem dL_law_391 : decode cL_law 391 = .ok (.iaload, 1) := by decide +kernel
theorem dL_law_392 : decode cL_law 392 = .ok (.invokevirtual 49, 3) := by decide +kernel
theorem dL_law_395 : decode cL_law 395 = .ok (.if_icmp .eq 559, 3) := by decide +kernel
theorem dL_law_398 : decode cL_law 398 = .ok (.iconst 0, 1) := by decide +kernel
theorem dL_law_399 : decode cL_law 399 = .ok (.ireturn, 1) := by decide +kernel
theorem dL_law_400 : decode cL_law 400 = .ok (.aload_n 1, 1) := by decide +kernel
theorem dL_law_401 : decode cL_law 401 = .ok (.aload_n 0, 1) := by decide +kernel
theorem dL_law_402 : decode cL_law 402 = .ok (.iload_n 3, 1) := by decide +kernel
theorem dL_law_403 : decode cL_law 403 = .ok (.iconst 1, 1) := by decide +kernel
theorem dL_law_404 : decode cL_law 404 = .ok (.iadd, 1) := by decide +kernel
theorem dL_law_405 : decode cL_law 405 = .ok (.iaload, 1) := by decide +kernel
theorem dL_law_406 : decode cL_law 406 = .ok (.invokevirtual 50, 3) := by decide +kernel
theorem dL_law_409 : decode cL_law 409 = .ok (.aload_n 2, 1) := by decide +kernel
theorem dL_law_410 : decode cL_law 410 = .ok (.aload_n 0, 1) := by decide +kernel
theorem dL_law_411 : decode cL_law 411 = .ok (.iload_n 3, 1) := by decide +kernel
theorem dL_law_412 : decode cL_law 412 = .ok (.iconst 1, 1) := by decide +kernel
theorem dL_law_413 : decode cL_law 413 = .ok (.iadd, 1) := by decide +kernel
theorem dL_law_414 : decode cL_law 414 = .ok (.iaload, 1) := by decide +kernel
theorem dL_law_415 : decode cL_law 415 = .ok (.invokevirtual 53, 3) := by decide +kernel
theorem dL_law_418 : decode cL_law 418 = .ok (.if_icmp .eq 536, 3) := by decide +kernel
theorem dL_law_421 : decode cL_law 421 = .ok (.iconst 0, 1) := by decide +kernel
theorem dL_law_422 : decode cL_law 422 = .ok (.ireturn, 1) := by decide +kernel
theorem dL_law_423 : decode cL_law 423 = .ok (.aload_n 1, 1) := by decide +kernel
theorem dL_law_424 : decode cL_law 424 = .ok (.aload_n 0, 1) := by decide +kernel
theorem dL_law_425 : decode cL_law 425 = .ok (.iload_n 3, 1) := by decide +kernel
theorem dL_law_426 : decode cL_law 426 = .ok (.iconst 1, 1) := by decide +kernel
theorem dL_law_427 : decode cL_law 427 = .ok (.iadd, 1) := by decide +kernel
theorem dL_law_428 : decode cL_law 428 = .ok (.iaload, 1) := by decide +kernel
theorem dL_law_429 : decode cL_law 429 = .ok (.invokevirtual 54, 3) := by decide +kernel
theorem dL_law_432 : decode cL_law 432 = .ok (.aload_n 2, 1) := by decide +kernel
theorem dL_law_433 : decode cL_law 433 = .ok (.aload_n 0, 1) := by decide +kernel
theorem dL_law_434 : decode cL_law 434 = .ok (.iload_n 3, 1) := by decide +kernel
theorem dL_law_435 : decode cL_law 435 = .ok (.iconst 1, 1) := by decide +kernel
theorem dL_law_436 : decode cL_law 436 = .ok (.iadd, 1) := by decide +kernel
theorem dL_law_437 : decode cL_law 437 = .ok (.iaload, 1) := by decide +kernel
theorem dL_law_438 : decode cL_law 438 = .ok (.invokevirtual 57, 3) := by decide +kernel
theorem dL_law_441 : decode cL_law 441 = .ok (.if_icmp .eq 513, 3) := by decide +kernel
theorem dL_law_444 : decode cL_law 444 = .ok (.iconst 0, 1) := by decide +kernel
theorem dL_law_445 : decode cL_law 445 = .ok (.ireturn, 1) := by decide +kernel
theorem dL_law_446 : decode cL_law 446 = .ok (.aload_n 1, 1) := by decide +kernel
theorem dL_law_447 : decode cL_law 447 = .ok (.aload_n 0, 1) := by decide +kernel
theorem dL_law_448 : decode cL_law 448 = .ok (.iload_n 3, 1) := by decide +kernel
theorem dL_law_449 : decode cL_law 449 = .ok (.iconst 1, 1) := by decide +kernel
theorem dL_law_450 : decode cL_law 450 = .ok (.iadd, 1) := by decide +kernel
theorem dL_law_451 : decode cL_law 451 = .ok (.iaload, 1) := by decide +kernel
theorem dL_law_452 : decode cL_law 452 = .ok (.invokevirtual 58, 3) := by decide +kernel
theorem dL_law_455 : decode cL_law 455 = .ok (.aload_n 2, 1) := by decide +kernel
theorem dL_law_456 : decode cL_law 456 = .ok (.aload_n 0, 1) := by decide +kernel
theorem dL_law_457 : decode cL_law 457 = .ok (.iload_n 3, 1) := by decide +kernel
theorem dL_law_458 : decode cL_law 458 = .ok (.iconst 1, 1) := by decide +kernel
theorem dL_law_459 : decode cL_law 459 = .ok (.iadd, 1) := by decide +kernel
theorem dL_law_460 : decode cL_law 460 = .ok (.iaload, 1) := by decide +kernel
theorem dL_law_461 : decode cL_law 461 = .ok (.invokevirtual 61, 3) := by decide +kernel
theorem dL_law_464 : decode cL_law 464 = .ok (.if_icmp .eq 490, 3) := by decide +kernel
theorem dL_law_467 : decode cL_law 467 = .ok (.iconst 0, 1) := by decide +kernel
theorem dL_law_468 : decode cL_law 468 = .ok (.ireturn, 1) := by decide +kernel
theorem dL_law_469 : decode cL_law 469 = .ok (.aload_n 1, 1) := by decide +kernel
theorem dL_law_470 : decode cL_law 470 = .ok (.aload_n 0, 1) := by decide +kernel
theorem dL_law_471 : decode cL_law 471 = .ok (.iload_n 3, 1) := by decide +kernel
theorem dL_law_472 : decode cL_law 472 = .ok (.iconst 1, 1) := by decide +kernel
theorem dL_law_473 : decode cL_law 473 = .ok (.iadd, 1) := by decide +kernel
theorem dL_law_474 : decode cL_law 474 = .ok (.iaload, 1) := by decide +kernel
theorem dL_law_475 : decode cL_law 475 = .ok (.invokevirtual 62, 3) := by decide +kernel
theorem dL_law_478 : decode cL_law 478 = .ok (.aload_n 2, 1) := by decide +kernel
theorem dL_law_479 : decode cL_law 479 = .ok (.aload_n 0, 1) := by decide +kernel
theorem dL_law_480 : decode cL_law 480 = .ok (.iload_n 3, 1) := by decide +kernel
theorem dL_law_481 : decode cL_law 481 = .ok (.iconst 1, 1) := by decide +kernel
theorem dL_law_482 : decode cL_law 482 = .ok (.iadd, 1) := by decide +kernel
theorem dL_law_483 : decode cL_law 483 = .ok (.iaload, 1) := by decide +kernel
theorem dL_law_484 : decode cL_law 484 = .ok (.invokevirtual 65, 3) := by decide +kernel
theorem dL_law_487 : decode cL_law 487 = .ok (.if_icmp .eq 467, 3) := by decide +kernel
theorem dL_law_490 : decode cL_law 490 = .ok (.iconst 0, 1) := by decide +kernel
theorem dL_law_491 : decode cL_law 491 = .ok (.ireturn, 1) := by decide +kernel
theorem dL_law_492 : decode cL_law 492 = .ok (.aload_n 1, 1) := by decide +kernel
theorem dL_law_493 : decode cL_law 493 = .ok (.aload_n 0, 1) := by decide +kernel
theorem dL_law_494 : decode cL_law 494 = .ok (.iload_n 3, 1) := by decide +kernel
theorem dL_law_495 : decode cL_law 495 = .ok (.iconst 1, 1) := by decide +kernel
theorem dL_law_496 : decode cL_law 496 = .ok (.iadd, 1) := by decide +kernel
theorem dL_law_497 : decode cL_law 497 = .ok (.iaload, 1) := by decide +kernel
theorem dL_law_498 : decode cL_law 498 = .ok (.invokevirtual 66, 3) := by decide +kernel
theorem dL_law_501 : decode cL_law 501 = .ok (.aload_n 2, 1) := by decide +kernel
theorem dL_law_502 : decode cL_law 502 = .ok (.aload_n 0, 1) := by decide +kernel
theorem dL_law_503 : decode cL_law 503 = .ok (.iload_n 3, 1) := by decide +kernel
theorem dL_law_504 : decode cL_law 504 = .ok (.iconst 1, 1) := by decide +kernel
theorem dL_law_505 : decode cL_law 505 = .ok (.iadd, 1) := by decide +kernel
theorem dL_law_506 : decode cL_law 506 = .ok (.iaload, 1) := by decide +kernel
theorem dL_law_507 : decode cL_law 507 = .ok (.invokevirtual 69, 3) := by decide +kernel
theorem dL_law_510 : decode cL_law 510 = .ok (.if_icmp .eq 444, 3) := by decide +kernel
theorem dL_law_513 : decode cL_law 513 = .ok (.iconst 0, 1) := by decide +kernel
theorem dL_law_514 : decode cL_law 514 = .ok (.ireturn, 1) := by decide +kernel
theorem dL_law_515 : decode cL_law 515 = .ok (.aload_n 1, 1) := by decide +kernel
theorem dL_law_516 : decode cL_law 516 = .ok (.aload_n 0, 1) := by decide +kernel
theorem dL_law_517 : decode cL_law 517 = .ok (.iload_n 3, 1) := by decide +kernel
theorem dL_law_518 : decode cL_law 518 = .ok (.iconst 1, 1) := by decide +kernel
theorem dL_law_519 : decode cL_law 519 = .ok (.iadd, 1) := by decide +kernel
theorem dL_law_520 : decode cL_law 520 = .ok (.iaload, 1) := by decide +kernel
theorem dL_law_521 : decode cL_law 521 = .ok (.invokevirtual 70, 3) := by decide +kernel
theorem dL_law_524 : decode cL_law 524 = .ok (.aload_n 2, 1) := by decide +kernel
theorem dL_law_525 : decode cL_law 525 = .ok (.aload_n 0, 1) := by decide +kernel
theorem dL_law_526 : decode cL_law 526 = .ok (.iload_n 3, 1) := by decide +kernel
theorem dL_law_527 : decode cL_law 527 = .ok (.iconst 1, 1) := by decide +kernel
theorem dL_law_528 : decode cL_law 528 = .ok (.iadd, 1) := by decide +kernel
theorem dL_law_529 : decode cL_law 529 = .ok (.iaload, 1) := by decide +kernel
theorem dL_law_530 : decode cL_law 530 = .ok (.invokevirtual 73, 3) := by decide +kernel
theorem dL_law_533 : decode cL_law 533 = .ok (.if_icmp .eq 421, 3) := by decide +kernel
theorem dL_law_536 : decode cL_law 536 = .ok (.iconst 0, 1) := by decide +kernel
theorem dL_law_537 : decode cL_law 537 = .ok (.ireturn, 1) := by decide +kernel
theorem dL_law_538 : decode cL_law 538 = .ok (.aload_n 1, 1) := by decide +kernel
theorem dL_law_539 : decode cL_law 539 = .ok (.aload_n 0, 1) := by decide +kernel
theorem dL_law_540 : decode cL_law 540 = .ok (.iload_n 3, 1) := by decide +kernel
theorem dL_law_541 : decode cL_law 541 = .ok (.iconst 1, 1) := by decide +kernel
theorem dL_law_542 : decode cL_law 542 = .ok (.iadd, 1) := by decide +kernel
theorem dL_law_543 : decode cL_law 543 = .ok (.iaload, 1) := by decide +kernel
theorem dL_law_544 : decode cL_law 544 = .ok (.aload_n 0, 1) := by decide +kernel
theorem dL_law_545 : decode cL_law 545 = .ok (.iload_n 3, 1) := by decide +kernel
theorem dL_law_546 : decode cL_law 546 = .ok (.iconst 2, 1) := by decide +kernel
theorem dL_law_547 : decode cL_law 547 = .ok (.iadd, 1) := by decide +kernel
theorem dL_law_548 : decode cL_law 548 = .ok (.iaload, 1) := by decide +kernel
theorem dL_law_549 : decode cL_law 549 = .ok (.invokevirtual 74, 3) := by decide +kernel
theorem dL_law_552 : decode cL_law 552 = .ok (.aload_n 2, 1) := by decide +kernel
theorem dL_law_553 : decode cL_law 553 = .ok (.aload_n 0, 1) := by decide +kernel
theorem dL_law_554 : decode cL_law 554 = .ok (.iload_n 3, 1) := by decide +kernel
theorem dL_law_555 : decode cL_law 555 = .ok (.iconst 1, 1) := by decide +kernel
theorem dL_law_556 : decode cL_law 556 = .ok (.iadd, 1) := by decide +kernel
theorem dL_law_557 : decode cL_law 557 = .ok (.iaload, 1) := by decide +kernel
theorem dL_law_558 : decode cL_law 558 = .ok (.aload_n 0, 1) := by decide +kernel
theorem dL_law_559 : decode cL_law 559 = .ok (.iload_n 3, 1) := by decide +kernel
theorem dL_law_560 : decode cL_law 560 = .ok (.iconst 2, 1) := by decide +kernel
theorem dL_law_561 : decode cL_law 561 = .ok (.iadd, 1) := by decide +kernel
theorem dL_law_562 : decode cL_law 562 = .ok (.iaload, 1) := by decide +kernel
theorem dL_law_563 : decode cL_law 563 = .ok (.invokevirtual 77, 3) := by decide +kernel
theorem dL_law_566 : decode cL_law 566 = .ok (.if_icmp .eq 388, 3) := by decide +kernel
theorem dL_law_569 : decode cL_law 569 = .ok (.iconst 0, 1) := by decide +kernel
theorem dL_law_570 : decode cL_law 570 = .ok (.ireturn, 1) := by decide +kernel
theorem dL_law_571 : decode cL_law 571 = .ok (.aload_n 1, 1) := by decide +kernel
theorem dL_law_572 : decode cL_law 572 = .ok (.aload_n 0, 1) := by decide +kernel
theorem dL_law_573 : decode cL_law 573 = .ok (.iload_n 3, 1) := by decide +kernel
theorem dL_law_574 : decode cL_law 574 = .ok (.iconst 1, 1) := by decide +kernel
theorem dL_law_575 : decode cL_law 575 = .ok (.iadd, 1) := by decide +kernel
theorem dL_law_576 : decode cL_law 576 = .ok (.iaload, 1) := by decide +kernel
theorem dL_law_577 : decode cL_law 577 = .ok (.invokevirtual 78, 3) := by decide +kernel
theorem dL_law_580 : decode cL_law 580 = .ok (.aload_n 2, 1) := by decide +kernel
theorem dL_law_581 : decode cL_law 581 = .ok (.aload_n 0, 1) := by decide +kernel
theorem dL_law_582 : decode cL_law 582 = .ok (.iload_n 3, 1) := by decide +kernel
theorem dL_law_583 : decode cL_law 583 = .ok (.iconst 1, 1) := by decide +kernel
theorem dL_law_584 : decode cL_law 584 = .ok (.iadd, 1) := by decide +kernel
theorem dL_law_585 : decode cL_law 585 = .ok (.iaload, 1) := by decide +kernel
theorem dL_law_586 : decode cL_law 586 = .ok (.invokevirtual 81, 3) := by decide +kernel
theorem dL_law_589 : decode cL_law 589 = .ok (.if_icmp .eq 365, 3) := by decide +kernel
theorem dL_law_592 : decode cL_law 592 = .ok (.iconst 0, 1) := by decide +kernel
theorem dL_law_593 : decode cL_law 593 = .ok (.ireturn, 1) := by decide +kernel
theorem dL_law_594 : decode cL_law 594 = .ok (.aload_n 1, 1) := by decide +kernel
theorem dL_law_595 : decode cL_law 595 = .ok (.aload_n 0, 1) := by decide +kernel
theorem dL_law_596 : decode cL_law 596 = .ok (.iload_n 3, 1) := by decide +kernel
theorem dL_law_597 : decode cL_law 597 = .ok (.iconst 1, 1) := by decide +kernel
theorem dL_law_598 : decode cL_law 598 = .ok (.iadd, 1) := by decide +kernel
theorem dL_law_599 : decode cL_law 599 = .ok (.iaload, 1) := by decide +kernel
theorem dL_law_600 : decode cL_law 600 = .ok (.invokevirtual 82, 3) := by decide +kernel
theorem dL_law_603 : decode cL_law 603 = .ok (.aload_n 2, 1) := by decide +kernel
theorem dL_law_604 : decode cL_law 604 = .ok (.aload_n 0, 1) := by decide +kernel
theorem dL_law_605 : decode cL_law 605 = .ok (.iload_n 3, 1) := by decide +kernel
theorem dL_law_606 : decode cL_law 606 = .ok (.iconst 1, 1) := by decide +kernel
theorem dL_law_607 : decode cL_law 607 = .ok (.iadd, 1) := by decide +kernel
theorem dL_law_608 : decode cL_law 608 = .ok (.iaload, 1) := by decide +kernel
theorem dL_law_609 : decode cL_law 609 = .ok (.invokevirtual 85, 3) := by decide +kernel
theorem dL_law_612 : decode cL_law 612 = .ok (.if_icmp .eq 342, 3) := by decide +kernel
theorem dL_law_615 : decode cL_law 615 = .ok (.iconst 0, 1) := by decide +kernel
theorem dL_law_616 : decode cL_law 616 = .ok (.ireturn, 1) := by decide +kernel
theorem dL_law_617 : decode cL_law 617 = .ok (.aload_n 1, 1) := by decide +kernel
theorem dL_law_618 : decode cL_law 618 = .ok (.invokevirtual 86, 3) := by decide +kernel
theorem dL_law_621 : decode cL_law 621 = .ok (.aload_n 2, 1) := by decide +kernel
theorem dL_law_622 : decode cL_law 622 = .ok (.invokevirtual 89, 3) := by decide +kernel
theorem dL_law_625 : decode cL_law 625 = .ok (.if_icmp .eq 329, 3) := by decide +kernel
theorem dL_law_628 : decode cL_law 628 = .ok (.iconst 0, 1) := by decide +kernel
theorem dL_law_629 : decode cL_law 629 = .ok (.ireturn, 1) := by decide +kernel
theorem dL_law_630 : decode cL_law 630 = .ok (.aload_n 1, 1) := by decide +kernel
theorem dL_law_631 : decode cL_law 631 = .ok (.invokevirtual 90, 3) := by decide +kernel
theorem dL_law_634 : decode cL_law 634 = .ok (.aload_n 2, 1) := by decide +kernel
theorem dL_law_635 : decode cL_law 635 = .ok (.invokevirtual 93, 3) := by decide +kernel
theorem dL_law_638 : decode cL_law 638 = .ok (.if_icmp .eq 316, 3) := by decide +kernel
theorem dL_law_641 : decode cL_law 641 = .ok (.iconst 0, 1) := by decide +kernel
theorem dL_law_642 : decode cL_law 642 = .ok (.ireturn, 1) := by decide +kernel
theorem dL_law_643 : decode cL_law 643 = .ok (.aload_n 1, 1) := by decide +kernel
theorem dL_law_644 : decode cL_law 644 = .ok (.aload_n 0, 1) := by decide +kernel
theorem dL_law_645 : decode cL_law 645 = .ok (.iload_n 3, 1) := by decide +kernel
theorem dL_law_646 : decode cL_law 646 = .ok (.iconst 1, 1) := by decide +kernel
theorem dL_law_647 : decode cL_law 647 = .ok (.iadd, 1) := by decide +kernel
theorem dL_law_648 : decode cL_law 648 = .ok (.iaload, 1) := by decide +kernel
theorem dL_law_649 : decode cL_law 649 = .ok (.aload_n 0, 1) := by decide +kernel
theorem dL_law_650 : decode cL_law 650 = .ok (.iload_n 3, 1) := by decide +kernel
theorem dL_law_651 : decode cL_law 651 = .ok (.iconst 2, 1) := by decide +kernel
theorem dL_law_652 : decode cL_law 652 = .ok (.iadd, 1) := by decide +kernel
theorem dL_law_653 : decode cL_law 653 = .ok (.iaload, 1) := by decide +kernel
theorem dL_law_654 : decode cL_law 654 = .ok (.aload_n 0, 1) := by decide +kernel
theorem dL_law_655 : decode cL_law 655 = .ok (.iload_n 3, 1) := by decide +kernel
theorem dL_law_656 : decode cL_law 656 = .ok (.iconst 3, 1) := by decide +kernel
theorem dL_law_657 : decode cL_law 657 = .ok (.iadd, 1) := by decide +kernel
theorem dL_law_658 : decode cL_law 658 = .ok (.iaload, 1) := by decide +kernel
theorem dL_law_659 : decode cL_law 659 = .ok (.invokevirtual 94, 3) := by decide +kernel
theorem dL_law_662 : decode cL_law 662 = .ok (.aload_n 2, 1) := by decide +kernel
theorem dL_law_663 : decode cL_law 663 = .ok (.aload_n 0, 1) := by decide +kernel
theorem dL_law_664 : decode cL_law 664 = .ok (.iload_n 3, 1) := by decide +kernel
theorem dL_law_665 : decode cL_law 665 = .ok (.iconst 1, 1) := by decide +kernel
theorem dL_law_666 : decode cL_law 666 = .ok (.iadd, 1) := by decide +kernel
theorem dL_law_667 : decode cL_law 667 = .ok (.iaload, 1) := by decide +kernel
theorem dL_law_668 : decode cL_law 668 = .ok (.aload_n 0, 1) := by decide +kernel
theorem dL_law_669 : decode cL_law 669 = .ok (.iload_n 3, 1) := by decide +kernel
theorem dL_law_670 : decode cL_law 670 = .ok (.iconst 2, 1) := by decide +kernel
theorem dL_law_671 : decode cL_law 671 = .ok (.iadd, 1) := by decide +kernel
theorem dL_law_672 : decode cL_law 672 = .ok (.iaload, 1) := by decide +kernel
theorem dL_law_673 : decode cL_law 673 = .ok (.aload_n 0, 1) := by decide +kernel
theorem dL_law_674 : decode cL_law 674 = .ok (.iload_n 3, 1) := by decide +kernel
theorem dL_law_675 : decode cL_law 675 = .ok (.iconst 3, 1) := by decide +kernel
theorem dL_law_676 : decode cL_law 676 = .ok (.iadd, 1) := by decide +kernel
theorem dL_law_677 : decode cL_law 677 = .ok (.iaload, 1) := by decide +kernel
theorem dL_law_678 : decode cL_law 678 = .ok (.invokevirtual 97, 3) := by decide +kernel
theorem dL_law_681 : decode cL_law 681 = .ok (.if_icmp .eq 273, 3) := by decide +kernel
theorem dL_law_684 : decode cL_law 684 = .ok (.iconst 0, 1) := by decide +kernel
theorem dL_law_685 : decode cL_law 685 = .ok (.ireturn, 1) := by decide +kernel
theorem dL_law_686 : decode cL_law 686 = .ok (.aload_n 1, 1) := by decide +kernel
theorem dL_law_687 : decode cL_law 687 = .ok (.aload_n 0, 1) := by decide +kernel
theorem dL_law_688 : decode cL_law 688 = .ok (.iload_n 3, 1) := by decide +kernel
theorem dL_law_689 : decode cL_law 689 = .ok (.iconst 1, 1) := by decide +kernel
theorem dL_law_690 : decode cL_law 690 = .ok (.iadd, 1) := by decide +kernel
theorem dL_law_691 : decode cL_law 691 = .ok (.iaload, 1) := by decide +kernel
theorem dL_law_692 : decode cL_law 692 = .ok (.aload_n 0, 1) := by decide +kernel
theorem dL_law_693 : decode cL_law 693 = .ok (.iload_n 3, 1) := by decide +kernel
theorem dL_law_694 : decode cL_law 694 = .ok (.iconst 2, 1) := by decide +kernel
theorem dL_law_695 : decode cL_law 695 = .ok (.iadd, 1) := by decide +kernel
theorem dL_law_696 : decode cL_law 696 = .ok (.iaload, 1) := by decide +kernel
theorem dL_law_697 : decode cL_law 697 = .ok (.aload_n 0, 1) := by decide +kernel
theorem dL_law_698 : decode cL_law 698 = .ok (.iload_n 3, 1) := by decide +kernel
theorem dL_law_699 : decode cL_law 699 = .ok (.iconst 3, 1) := by decide +kernel
theorem dL_law_700 : decode cL_law 700 = .ok (.iadd, 1) := by decide +kernel
theorem dL_law_701 : decode cL_law 701 = .ok (.iaload, 1) := by decide +kernel
theorem dL_law_702 : decode cL_law 702 = .ok (.invokevirtual 98, 3) := by decide +kernel
theorem dL_law_705 : decode cL_law 705 = .ok (.aload_n 2, 1) := by decide +kernel
theorem dL_law_706 : decode cL_law 706 = .ok (.aload_n 0, 1) := by decide +kernel
theorem dL_law_707 : decode cL_law 707 = .ok (.iload_n 3, 1) := by decide +kernel
theorem dL_law_708 : decode cL_law 708 = .ok (.iconst 1, 1) := by decide +kernel
theorem dL_law_709 : decode cL_law 709 = .ok (.iadd, 1) := by decide +kernel
theorem dL_law_710 : decode cL_law 710 = .ok (.iaload, 1) := by decide +kernel
theorem dL_law_711 : decode cL_law 711 = .ok (.aload_n 0, 1) := by decide +kernel
theorem dL_law_712 : decode cL_law 712 = .ok (.iload_n 3, 1) := by decide +kernel
theorem dL_law_713 : decode cL_law 713 = .ok (.iconst 2, 1) := by decide +kernel
theorem dL_law_714 : decode cL_law 714 = .ok (.iadd, 1) := by decide +kernel
theorem dL_law_715 : decode cL_law 715 = .ok (.iaload, 1) := by decide +kernel
theorem dL_law_716 : decode cL_law 716 = .ok (.aload_n 0, 1) := by decide +kernel
theorem dL_law_717 : decode cL_law 717 = .ok (.iload_n 3, 1) := by decide +kernel
theorem dL_law_718 : decode cL_law 718 = .ok (.iconst 3, 1) := by decide +kernel
theorem dL_law_719 : decode cL_law 719 = .ok (.iadd, 1) := by decide +kernel
theorem dL_law_720 : decode cL_law 720 = .ok (.iaload, 1) := by decide +kernel
theorem dL_law_721 : decode cL_law 721 = .ok (.invokevirtual 101, 3) := by decide +kernel
theorem dL_law_724 : decode cL_law 724 = .ok (.if_icmp .eq 230, 3) := by decide +kernel
theorem dL_law_727 : decode cL_law 727 = .ok (.iconst 0, 1) := by decide +kernel
theorem dL_law_728 : decode cL_law 728 = .ok (.ireturn, 1) := by decide +kernel
theorem dL_law_729 : decode cL_law 729 = .ok (.aload_n 1, 1) := by decide +kernel
theorem dL_law_730 : decode cL_law 730 = .ok (.aload_n 0, 1) := by decide +kernel
theorem dL_law_731 : decode cL_law 731 = .ok (.iload_n 3, 1) := by decide +kernel
theorem dL_law_732 : decode cL_law 732 = .ok (.iconst 1, 1) := by decide +kernel
theorem dL_law_733 : decode cL_law 733 = .ok (.iadd, 1) := by decide +kernel
theorem dL_law_734 : decode cL_law 734 = .ok (.iaload, 1) := by decide +kernel
theorem dL_law_735 : decode cL_law 735 = .ok (.aload_n 0, 1) := by decide +kernel
theorem dL_law_736 : decode cL_law 736 = .ok (.iload_n 3, 1) := by decide +kernel
theorem dL_law_737 : decode cL_law 737 = .ok (.iconst 2, 1) := by decide +kernel
theorem dL_law_738 : decode cL_law 738 = .ok (.iadd, 1) := by decide +kernel
theorem dL_law_739 : decode cL_law 739 = .ok (.iaload, 1) := by decide +kernel
theorem dL_law_740 : decode cL_law 740 = .ok (.invokevirtual 102, 3) := by decide +kernel
theorem dL_law_743 : decode cL_law 743 = .ok (.aload_n 2, 1) := by decide +kernel
theorem dL_law_744 : decode cL_law 744 = .ok (.aload_n 0, 1) := by decide +kernel
theorem dL_law_745 : decode cL_law 745 = .ok (.iload_n 3, 1) := by decide +kernel
theorem dL_law_746 : decode cL_law 746 = .ok (.iconst 1, 1) := by decide +kernel
theorem dL_law_747 : decode cL_law 747 = .ok (.iadd, 1) := by decide +kernel
theorem dL_law_748 : decode cL_law 748 = .ok (.iaload, 1) := by decide +kernel
theorem dL_law_749 : decode cL_law 749 = .ok (.aload_n 0, 1) := by decide +kernel
theorem dL_law_750 : decode cL_law 750 = .ok (.iload_n 3, 1) := by decide +kernel
theorem dL_law_751 : decode cL_law 751 = .ok (.iconst 2, 1) := by decide +kernel
theorem dL_law_752 : decode cL_law 752 = .ok (.iadd, 1) := by decide +kernel
theorem dL_law_753 : decode cL_law 753 = .ok (.iaload, 1) := by decide +kernel
theorem dL_law_754 : decode cL_law 754 = .ok (.invokevirtual 106, 3) := by decide +kernel
theorem dL_law_757 : decode cL_law 757 = .ok (.lcmp, 1) := by decide +kernel
theorem dL_law_758 : decode cL_law 758 = .ok (.ifCond .eq 196, 3) := by decide +kernel
theorem dL_law_761 : decode cL_law 761 = .ok (.iconst 0, 1) := by decide +kernel
theorem dL_law_762 : decode cL_law 762 = .ok (.ireturn, 1) := by decide +kernel
theorem dL_law_763 : decode cL_law 763 = .ok (.aload_n 1, 1) := by decide +kernel
theorem dL_law_764 : decode cL_law 764 = .ok (.aload_n 0, 1) := by decide +kernel
theorem dL_law_765 : decode cL_law 765 = .ok (.iload_n 3, 1) := by decide +kernel
theorem dL_law_766 : decode cL_law 766 = .ok (.iconst 1, 1) := by decide +kernel
theorem dL_law_767 : decode cL_law 767 = .ok (.iadd, 1) := by decide +kernel
theorem dL_law_768 : decode cL_law 768 = .ok (.iaload, 1) := by decide +kernel
theorem dL_law_769 : decode cL_law 769 = .ok (.aload_n 0, 1) := by decide +kernel
theorem dL_law_770 : decode cL_law 770 = .ok (.iload_n 3, 1) := by decide +kernel
theorem dL_law_771 : decode cL_law 771 = .ok (.iconst 2, 1) := by decide +kernel
theorem dL_law_772 : decode cL_law 772 = .ok (.iadd, 1) := by decide +kernel
theorem dL_law_773 : decode cL_law 773 = .ok (.iaload, 1) := by decide +kernel
theorem dL_law_774 : decode cL_law 774 = .ok (.i2l, 1) := by decide +kernel
theorem dL_law_775 : decode cL_law 775 = .ok (.bipush 32, 2) := by decide +kernel
theorem dL_law_777 : decode cL_law 777 = .ok (.lshl, 1) := by decide +kernel
theorem dL_law_778 : decode cL_law 778 = .ok (.aload_n 0, 1) := by decide +kernel
theorem dL_law_779 : decode cL_law 779 = .ok (.iload_n 3, 1) := by decide +kernel
theorem dL_law_780 : decode cL_law 780 = .ok (.iconst 3, 1) := by decide +kernel
theorem dL_law_781 : decode cL_law 781 = .ok (.iadd, 1) := by decide +kernel
theorem dL_law_782 : decode cL_law 782 = .ok (.iaload, 1) := by decide +kernel
theorem dL_law_783 : decode cL_law 783 = .ok (.i2l, 1) := by decide +kernel
theorem dL_law_784 : decode cL_law 784 = .ok (.ldc2_w 107, 3) := by decide +kernel
theorem dL_law_787 : decode cL_law 787 = .ok (.land, 1) := by decide +kernel
theorem dL_law_788 : decode cL_law 788 = .ok (.lor, 1) := by decide +kernel
theorem dL_law_789 : decode cL_law 789 = .ok (.invokevirtual 109, 3) := by decide +kernel
theorem dL_law_792 : decode cL_law 792 = .ok (.aload_n 2, 1) := by decide +kernel
theorem dL_law_793 : decode cL_law 793 = .ok (.aload_n 0, 1) := by decide +kernel
theorem dL_law_794 : decode cL_law 794 = .ok (.iload_n 3, 1) := by decide +kernel
theorem dL_law_795 : decode cL_law 795 = .ok (.iconst 1, 1) := by decide +kernel
theorem dL_law_796 : decode cL_law 796 = .ok (.iadd, 1) := by decide +kernel
theorem dL_law_797 : decode cL_law 797 = .ok (.iaload, 1) := by decide +kernel
theorem dL_law_798 : decode cL_law 798 = .ok (.aload_n 0, 1) := by decide +kernel
theorem dL_law_799 : decode cL_law 799 = .ok (.iload_n 3, 1) := by decide +kernel
theorem dL_law_800 : decode cL_law 800 = .ok (.iconst 2, 1) := by decide +kernel
theorem dL_law_801 : decode cL_law 801 = .ok (.iadd, 1) := by decide +kernel
theorem dL_law_802 : decode cL_law 802 = .ok (.iaload, 1) := by decide +kernel
theorem dL_law_803 : decode cL_law 803 = .ok (.i2l, 1) := by decide +kernel
theorem dL_law_804 : decode cL_law 804 = .ok (.bipush 32, 2) := by decide +kernel
theorem dL_law_806 : decode cL_law 806 = .ok (.lshl, 1) := by decide +kernel
theorem dL_law_807 : decode cL_law 807 = .ok (.aload_n 0, 1) := by decide +kernel
theorem dL_law_808 : decode cL_law 808 = .ok (.iload_n 3, 1) := by decide +kernel
theorem dL_law_809 : decode cL_law 809 = .ok (.iconst 3, 1) := by decide +kernel
theorem dL_law_810 : decode cL_law 810 = .ok (.iadd, 1) := by decide +kernel
theorem dL_law_811 : decode cL_law 811 = .ok (.iaload, 1) := by decide +kernel
theorem dL_law_812 : decode cL_law 812 = .ok (.i2l, 1) := by decide +kernel
theorem dL_law_813 : decode cL_law 813 = .ok (.ldc2_w 107, 3) := by decide +kernel
theorem dL_law_816 : decode cL_law 816 = .ok (.land, 1) := by decide +kernel
theorem dL_law_817 : decode cL_law 817 = .ok (.lor, 1) := by decide +kernel
theorem dL_law_818 : decode cL_law 818 = .ok (.invokevirtual 113, 3) := by decide +kernel
theorem dL_law_821 : decode cL_law 821 = .ok (.lcmp, 1) := by decide +kernel
theorem dL_law_822 : decode cL_law 822 = .ok (.ifCond .eq 132, 3) := by decide +kernel
theorem dL_law_825 : decode cL_law 825 = .ok (.iconst 0, 1) := by decide +kernel
theorem dL_law_826 : decode cL_law 826 = .ok (.ireturn, 1) := by decide +kernel
theorem dL_law_827 : decode cL_law 827 = .ok (.aload_n 1, 1) := by decide +kernel
theorem dL_law_828 : decode cL_law 828 = .ok (.aload_n 0, 1) := by decide +kernel
theorem dL_law_829 : decode cL_law 829 = .ok (.iload_n 3, 1) := by decide +kernel
theorem dL_law_830 : decode cL_law 830 = .ok (.iconst 1, 1) := by decide +kernel
theorem dL_law_831 : decode cL_law 831 = .ok (.iadd, 1) := by decide +kernel
theorem dL_law_832 : decode cL_law 832 = .ok (.iaload, 1) := by decide +kernel
theorem dL_law_833 : decode cL_law 833 = .ok (.invokevirtual 114, 3) := by decide +kernel
theorem dL_law_836 : decode cL_law 836 = .ok (.aload_n 2, 1) := by decide +kernel
theorem dL_law_837 : decode cL_law 837 = .ok (.aload_n 0, 1) := by decide +kernel
theorem dL_law_838 : decode cL_law 838 = .ok (.iload_n 3, 1) := by decide +kernel
theorem dL_law_839 : decode cL_law 839 = .ok (.iconst 1, 1) := by decide +kernel
theorem dL_law_840 : decode cL_law 840 = .ok (.iadd, 1) := by decide +kernel
theorem dL_law_841 : decode cL_law 841 = .ok (.iaload, 1) := by decide +kernel
theorem dL_law_842 : decode cL_law 842 = .ok (.invokevirtual 118, 3) := by decide +kernel
theorem dL_law_845 : decode cL_law 845 = .ok (.lcmp, 1) := by decide +kernel
theorem dL_law_846 : decode cL_law 846 = .ok (.ifCond .eq 108, 3) := by decide +kernel
theorem dL_law_849 : decode cL_law 849 = .ok (.iconst 0, 1) := by decide +kernel
theorem dL_law_850 : decode cL_law 850 = .ok (.ireturn, 1) := by decide +kernel
theorem dL_law_851 : decode cL_law 851 = .ok (.aload_n 1, 1) := by decide +kernel
theorem dL_law_852 : decode cL_law 852 = .ok (.aload_n 0, 1) := by decide +kernel
theorem dL_law_853 : decode cL_law 853 = .ok (.iload_n 3, 1) := by decide +kernel
theorem dL_law_854 : decode cL_law 854 = .ok (.iconst 1, 1) := by decide +kernel
theorem dL_law_855 : decode cL_law 855 = .ok (.iadd, 1) := by decide +kernel
theorem dL_law_856 : decode cL_law 856 = .ok (.iaload, 1) := by decide +kernel
theorem dL_law_857 : decode cL_law 857 = .ok (.aload_n 0, 1) := by decide +kernel
theorem dL_law_858 : decode cL_law 858 = .ok (.iload_n 3, 1) := by decide +kernel
theorem dL_law_859 : decode cL_law 859 = .ok (.iconst 2, 1) := by decide +kernel
theorem dL_law_860 : decode cL_law 860 = .ok (.iadd, 1) := by decide +kernel
theorem dL_law_861 : decode cL_law 861 = .ok (.iaload, 1) := by decide +kernel
theorem dL_law_862 : decode cL_law 862 = .ok (.invokevirtual 119, 3) := by decide +kernel
theorem dL_law_865 : decode cL_law 865 = .ok (.aload_n 2, 1) := by decide +kernel
theorem dL_law_866 : decode cL_law 866 = .ok (.aload_n 0, 1) := by decide +kernel
theorem dL_law_867 : decode cL_law 867 = .ok (.iload_n 3, 1) := by decide +kernel
theorem dL_law_868 : decode cL_law 868 = .ok (.iconst 1, 1) := by decide +kernel
theorem dL_law_869 : decode cL_law 869 = .ok (.iadd, 1) := by decide +kernel
theorem dL_law_870 : decode cL_law 870 = .ok (.iaload, 1) := by decide +kernel
theorem dL_law_871 : decode cL_law 871 = .ok (.aload_n 0, 1) := by decide +kernel
theorem dL_law_872 : decode cL_law 872 = .ok (.iload_n 3, 1) := by decide +kernel
theorem dL_law_873 : decode cL_law 873 = .ok (.iconst 2, 1) := by decide +kernel
theorem dL_law_874 : decode cL_law 874 = .ok (.iadd, 1) := by decide +kernel
theorem dL_law_875 : decode cL_law 875 = .ok (.iaload, 1) := by decide +kernel
theorem dL_law_876 : decode cL_law 876 = .ok (.invokevirtual 122, 3) := by decide +kernel
theorem dL_law_879 : decode cL_law 879 = .ok (.if_icmp .eq 75, 3) := by decide +kernel
theorem dL_law_882 : decode cL_law 882 = .ok (.iconst 0, 1) := by decide +kernel
theorem dL_law_883 : decode cL_law 883 = .ok (.ireturn, 1) := by decide +kernel
theorem dL_law_884 : decode cL_law 884 = .ok (.aload_n 1, 1) := by decide +kernel
theorem dL_law_885 : decode cL_law 885 = .ok (.aload_n 0, 1) := by decide +kernel
theorem dL_law_886 : decode cL_law 886 = .ok (.iload_n 3, 1) := by decide +kernel
theorem dL_law_887 : decode cL_law 887 = .ok (.iconst 1, 1) := by decide +kernel
theorem dL_law_888 : decode cL_law 888 = .ok (.iadd, 1) := by decide +kernel
theorem dL_law_889 : decode cL_law 889 = .ok (.iaload, 1) := by decide +kernel
theorem dL_law_890 : decode cL_law 890 = .ok (.aload_n 0, 1) := by decide +kernel
theorem dL_law_891 : decode cL_law 891 = .ok (.iload_n 3, 1) := by decide +kernel
theorem dL_law_892 : decode cL_law 892 = .ok (.iconst 2, 1) := by decide +kernel
theorem dL_law_893 : decode cL_law 893 = .ok (.iadd, 1) := by decide +kernel
theorem dL_law_894 : decode cL_law 894 = .ok (.iaload, 1) := by decide +kernel
theorem dL_law_895 : decode cL_law 895 = .ok (.invokevirtual 123, 3) := by decide +kernel
theorem dL_law_898 : decode cL_law 898 = .ok (.aload_n 2, 1) := by decide +kernel
theorem dL_law_899 : decode cL_law 899 = .ok (.aload_n 0, 1) := by decide +kernel
theorem dL_law_900 : decode cL_law 900 = .ok (.iload_n 3, 1) := by decide +kernel
theorem dL_law_901 : decode cL_law 901 = .ok (.iconst 1, 1) := by decide +kernel
theorem dL_law_902 : decode cL_law 902 = .ok (.iadd, 1) := by decide +kernel
theorem dL_law_903 : decode cL_law 903 = .ok (.iaload, 1) := by decide +kernel
theorem dL_law_904 : decode cL_law 904 = .ok (.aload_n 0, 1) := by decide +kernel
theorem dL_law_905 : decode cL_law 905 = .ok (.iload_n 3, 1) := by decide +kernel
theorem dL_law_906 : decode cL_law 906 = .ok (.iconst 2, 1) := by decide +kernel
theorem dL_law_907 : decode cL_law 907 = .ok (.iadd, 1) := by decide +kernel
theorem dL_law_908 : decode cL_law 908 = .ok (.iaload, 1) := by decide +kernel
theorem dL_law_909 : decode cL_law 909 = .ok (.invokevirtual 126, 3) := by decide +kernel
theorem dL_law_912 : decode cL_law 912 = .ok (.if_icmp .eq 42, 3) := by decide +kernel
theorem dL_law_915 : decode cL_law 915 = .ok (.iconst 0, 1) := by decide +kernel
theorem dL_law_916 : decode cL_law 916 = .ok (.ireturn, 1) := by decide +kernel
theorem dL_law_917 : decode cL_law 917 = .ok (.aload_n 1, 1) := by decide +kernel
theorem dL_law_918 : decode cL_law 918 = .ok (.aload_n 0, 1) := by decide +kernel
theorem dL_law_919 : decode cL_law 919 = .ok (.iload_n 3, 1) := by decide +kernel
theorem dL_law_920 : decode cL_law 920 = .ok (.iconst 1, 1) := by decide +kernel
theorem dL_law_921 : decode cL_law 921 = .ok (.iadd, 1) := by decide +kernel
theorem dL_law_922 : decode cL_law 922 = .ok (.iaload, 1) := by decide +kernel
theorem dL_law_923 : decode cL_law 923 = .ok (.invokevirtual 127, 3) := by decide +kernel
theorem dL_law_926 : decode cL_law 926 = .ok (.aload_n 2, 1) := by decide +kernel
theorem dL_law_927 : decode cL_law 927 = .ok (.aload_n 0, 1) := by decide +kernel
theorem dL_law_928 : decode cL_law 928 = .ok (.iload_n 3, 1) := by decide +kernel
theorem dL_law_929 : decode cL_law 929 = .ok (.iconst 1, 1) := by decide +kernel
theorem dL_law_930 : decode cL_law 930 = .ok (.iadd, 1) := by decide +kernel
theorem dL_law_931 : decode cL_law 931 = .ok (.iaload, 1) := by decide +kernel
theorem dL_law_932 : decode cL_law 932 = .ok (.invokevirtual 130, 3) := by decide +kernel
theorem dL_law_935 : decode cL_law 935 = .ok (.if_icmp .eq 19, 3) := by decide +kernel
theorem dL_law_938 : decode cL_law 938 = .ok (.iconst 0, 1) := by decide +kernel
theorem dL_law_939 : decode cL_law 939 = .ok (.ireturn, 1) := by decide +kernel
theorem dL_law_940 : decode cL_law 940 = .ok (.aload_n 1, 1) := by decide +kernel
theorem dL_law_941 : decode cL_law 941 = .ok (.invokevirtual 131, 3) := by decide +kernel
theorem dL_law_944 : decode cL_law 944 = .ok (.aload_n 2, 1) := by decide +kernel
theorem dL_law_945 : decode cL_law 945 = .ok (.invokevirtual 135, 3) := by decide +kernel
theorem dL_law_948 : decode cL_law 948 = .ok (.lcmp, 1) := by decide +kernel
theorem dL_law_949 : decode cL_law 949 = .ok (.ifCond .eq 5, 3) := by decide +kernel
theorem dL_law_952 : decode cL_law 952 = .ok (.iconst 0, 1) := by decide +kernel
theorem dL_law_953 : decode cL_law 953 = .ok (.ireturn, 1) := by decide +kernel
theorem dL_law_954 : decode cL_law 954 = .ok (.iinc 3 4, 3) := by decide +kernel
theorem dL_law_957 : decode cL_law 957 = .ok (.goto (-939), 3) := by decide +kernel
theorem dL_law_960 : decode cL_law 960 = .ok (.iconst 1, 1) := by decide +kernel
theorem dL_law_961 : decode cL_law 961 = .ok (.ireturn, 1) := by decide +kernel
abbrev vwCl : List vw_C := [(RX0, TX0, 5), (RX1, TX1, 7), (RX2, TX2, 7), (RX3, TX3, 10), (RX4, TX4, 4), (RX5, TX5, 25)]
/-- the objects of DearVotes$Fund, kind 0: what each holds, by its address -/
structure wK_O_Fund where
  f_house : Nat → Option Nat
  f_projects : Nat → Int32
  f_gifts : Nat → Option Nat
  f_bonds : Nat → Option Nat
  f_lows : Nat → Option Nat
/-- the objects of DearVotes$House, kind 1: what each holds, by its address -/
structure wK_O_House where
  f_people : Nat → Int32
  f_questions : Nat → Int32
  f_seed : Nat → Int32
  f_budgets : Nat → Option Nat
  f_present : Nat → Option Nat
  f_voices : Nat → Option Nat
  f_worths : Nat → Option Nat
/-- the objects of DearVotes$Rounds, kind 2: what each holds, by its address -/
structure wK_O_Rounds where
  f_house : Nat → Option Nat
  f_search : Nat → Option Nat
  f_trail : Nat → Option Nat
  f_doneEver : Nat → Int32
  f_changesEver : Nat → Int32
  f_ending : Nat → Int32
  f_ringLength : Nat → Int32
/-- the objects of DearVotes$Search, kind 3: what each holds, by its address -/
structure wK_O_Search where
  f_house : Nat → Option Nat
  f_choices : Nat → Option Nat
  f_choiceVoices : Nat → Option Nat
  f_choiceGains : Nat → Option Nat
  f_gainAhead : Nat → Option Nat
  f_tried : Nat → Option Nat
  f_found : Nat → Option Nat
  f_foundGain : Nat → Int32
  f_foundCost : Nat → Int32
  f_budget : Nat → Int32
/-- the objects of DearVotes, kind 4: what each holds, by its address -/
structure wK_O_DearVotes where
  f_house : Nat → Option Nat
  f_search : Nat → Option Nat
  f_rounds : Nat → Option Nat
  f_fund : Nat → Option Nat
/-- the objects of DearVotesModel, kind 5: what each holds, by its address -/
structure wK_O_DearVotesModel where
  f_people : Nat → Int32
  f_questions : Nat → Int32
  f_projects : Nat → Int32
  f_seed : Nat → Int32
  f_budgets : Nat → Option Nat
  f_isHere : Nat → Option Nat
  f_votes : Nat → Option Nat
  f_worths : Nat → Option Nat
  f_gifts : Nat → Option Nat
  f_bonds : Nat → Option Nat
  f_rounds : Nat → Int32
  f_changes : Nat → Int32
  f_ended : Nat → Int32
  f_ring : Nat → Int32
  f_cheapest : Nat → Option Nat
  f_may : Nat → Option Nat
  f_bestVoices : Nat → Option Nat
  f_tryVoices : Nat → Option Nat
  f_bestGain : Nat → Int32
  f_bestCost : Nat → Int32
  f_hasBest : Nat → Int32
  f_past : Nat → Option Nat
  f_parts : Nat → Option Nat
  f_rests : Nat → Option Nat
  f_h : Nat → Int64
/-- the arrays of kind 6: what each holds, by its address -/
structure wK_R_I where
  len : Nat → Nat
  row : Nat → Nat → Int32
/-- the arrays of kind 7: what each holds, by its address -/
structure wK_R_J where
  len : Nat → Nat
  row : Nat → Nat → Int64
/-- the arrays of kind 8: what each holds, by its address -/
structure wK_R_Z where
  len : Nat → Nat
  row : Nat → Nat → Int32
/-- the arrays of kind 9: what each holds, by its address -/
structure wK_R__I where
  len : Nat → Nat
  row : Nat → Nat → Option Nat
/-- the arrays of kind 10: what each holds, by its address -/
structure wK_R__J where
  len : Nat → Nat
  row : Nat → Nat → Option Nat
/-- the pool: the addresses, the kind of each, and the kinds -/
structure wPS where
  L : List Nat
  K : Nat → Nat
  O_Fund : wK_O_Fund
  O_House : wK_O_House
  O_Rounds : wK_O_Rounds
  O_Search : wK_O_Search
  O_DearVotes : wK_O_DearVotes
  O_DearVotesModel : wK_O_DearVotesModel
  R_I : wK_R_I
  R_J : wK_R_J
  R_Z : wK_R_Z
  R__I : wK_R__I
  R__J : wK_R__J
/-- the empty pool -/
abbrev wP0 : wPS := { L := [], K := (fun _ => 0), O_Fund := { f_house := (fun _ => none), f_projects := (fun _ => 0), f_gifts := (fun _ => none), f_bonds := (fun _ => none), f_lows := (fun _ => none) }, O_House := { f_people := (fun _ => 0), f_questions := (fun _ => 0), f_seed := (fun _ => 0), f_budgets := (fun _ => none), f_present := (fun _ => none), f_voices := (fun _ => none), f_worths := (fun _ => none) }, O_Rounds := { f_house := (fun _ => none), f_search := (fun _ => none), f_trail := (fun _ => none), f_doneEver := (fun _ => 0), f_changesEver := (fun _ => 0), f_ending := (fun _ => 0), f_ringLength := (fun _ => 0) }, O_Search := { f_house := (fun _ => none), f_choices := (fun _ => none), f_choiceVoices := (fun _ => none), f_choiceGains := (fun _ => none), f_gainAhead := (fun _ => none), f_tried := (fun _ => none), f_found := (fun _ => none), f_foundGain := (fun _ => 0), f_foundCost := (fun _ => 0), f_budget := (fun _ => 0) }, O_DearVotes := { f_house := (fun _ => none), f_search := (fun _ => none), f_rounds := (fun _ => none), f_fund := (fun _ => none) }, O_DearVotesModel := { f_people := (fun _ => 0), f_questions := (fun _ => 0), f_projects := (fun _ => 0), f_seed := (fun _ => 0), f_budgets := (fun _ => none), f_isHere := (fun _ => none), f_votes := (fun _ => none), f_worths := (fun _ => none), f_gifts := (fun _ => none), f_bonds := (fun _ => none), f_rounds := (fun _ => 0), f_changes := (fun _ => 0), f_ended := (fun _ => 0), f_ring := (fun _ => 0), f_cheapest := (fun _ => none), f_may := (fun _ => none), f_bestVoices := (fun _ => none), f_tryVoices := (fun _ => none), f_bestGain := (fun _ => 0), f_bestCost := (fun _ => 0), f_hasBest := (fun _ => 0), f_past := (fun _ => none), f_parts := (fun _ => none), f_rests := (fun _ => none), f_h := (fun _ => 0) }, R_I := { len := (fun _ => 0), row := (fun _ _ => 0) }, R_J := { len := (fun _ => 0), row := (fun _ _ => 0) }, R_Z := { len := (fun _ => 0), row := (fun _ _ => 0) }, R__I := { len := (fun _ => 0), row := (fun _ _ => none) }, R__J := { len := (fun _ => 0), row := (fun _ _ => none) } }
/-- the pool's rows by their kinds -/
abbrev wPF (cyI : ClassId) (cyJ : ClassId) (cyZ : ClassId) (cyO28f5b : ClassId) (cyOff204 : ClassId) (S : wPS) : Nat → va_E := fun a => if S.K a = 0 then .inr (0, [va_rf (S.O_Fund.f_house a), .int (S.O_Fund.f_projects a), va_rf (S.O_Fund.f_gifts a), va_rf (S.O_Fund.f_bonds a), va_rf (S.O_Fund.f_lows a)]) else if S.K a = 1 then .inr (1, [.int (S.O_House.f_people a), .int (S.O_House.f_questions a), .int (S.O_House.f_seed a), va_rf (S.O_House.f_budgets a), va_rf (S.O_House.f_present a), va_rf (S.O_House.f_voices a), va_rf (S.O_House.f_worths a)]) else if S.K a = 2 then .inr (2, [va_rf (S.O_Rounds.f_house a), va_rf (S.O_Rounds.f_search a), va_rf (S.O_Rounds.f_trail a), .int (S.O_Rounds.f_doneEver a), .int (S.O_Rounds.f_changesEver a), .int (S.O_Rounds.f_ending a), .int (S.O_Rounds.f_ringLength a)]) else if S.K a = 3 then .inr (3, [va_rf (S.O_Search.f_house a), va_rf (S.O_Search.f_choices a), va_rf (S.O_Search.f_choiceVoices a), va_rf (S.O_Search.f_choiceGains a), va_rf (S.O_Search.f_gainAhead a), va_rf (S.O_Search.f_tried a), va_rf (S.O_Search.f_found a), .int (S.O_Search.f_foundGain a), .int (S.O_Search.f_foundCost a), .int (S.O_Search.f_budget a)]) else if S.K a = 4 then .inr (4, [va_rf (S.O_DearVotes.f_house a), va_rf (S.O_DearVotes.f_search a), va_rf (S.O_DearVotes.f_rounds a), va_rf (S.O_DearVotes.f_fund a)]) else if S.K a = 5 then .inr (5, [.int (S.O_DearVotesModel.f_people a), .int (S.O_DearVotesModel.f_questions a), .int (S.O_DearVotesModel.f_projects a), .int (S.O_DearVotesModel.f_seed a), va_rf (S.O_DearVotesModel.f_budgets a), va_rf (S.O_DearVotesModel.f_isHere a), va_rf (S.O_DearVotesModel.f_votes a), va_rf (S.O_DearVotesModel.f_worths a), va_rf (S.O_DearVotesModel.f_gifts a), va_rf (S.O_DearVotesModel.f_bonds a), .int (S.O_DearVotesModel.f_rounds a), .int (S.O_DearVotesModel.f_changes a), .int (S.O_DearVotesModel.f_ended a), .int (S.O_DearVotesModel.f_ring a), va_rf (S.O_DearVotesModel.f_cheapest a), va_rf (S.O_DearVotesModel.f_may a), va_rf (S.O_DearVotesModel.f_bestVoices a), va_rf (S.O_DearVotesModel.f_tryVoices a), .int (S.O_DearVotesModel.f_bestGain a), .int (S.O_DearVotesModel.f_bestCost a), .int (S.O_DearVotesModel.f_hasBest a), va_rf (S.O_DearVotesModel.f_past a), va_rf (S.O_DearVotesModel.f_parts a), va_rf (S.O_DearVotesModel.f_rests a), .long (S.O_DearVotesModel.f_h a)]) else if S.K a = 6 then .inl (cyI, S.R_I.len a, .inl (S.R_I.row a)) else if S.K a = 7 then .inl (cyJ, S.R_J.len a, .inr (.inl (S.R_J.row a))) else if S.K a = 8 then .inl (cyZ, S.R_Z.len a, .inl (S.R_Z.row a)) else if S.K a = 9 then .inl (cyO28f5b, S.R__I.len a, .inr (.inr (.inr (.inr (S.R__I.row a))))) else .inl (cyOff204, S.R__J.len a, .inr (.inr (.inr (.inr (S.R__J.row a)))))
theorem wAt_O_Fund (cyI : ClassId) (cyJ : ClassId) (cyZ : ClassId) (cyO28f5b : ClassId) (cyOff204 : ClassId) (S : wPS) {a : Nat} (h : S.K a = 0) : wPF cyI cyJ cyZ cyO28f5b cyOff204 S a = .inr (0, [va_rf (S.O_Fund.f_house a), .int (S.O_Fund.f_projects a), va_rf (S.O_Fund.f_gifts a), va_rf (S.O_Fund.f_bonds a), va_rf (S.O_Fund.f_lows a)]) := by simp [wPF, h]
theorem wGt_O_Fund (cyI : ClassId) (cyJ : ClassId) (cyZ : ClassId) (cyO28f5b : ClassId) (cyOff204 : ClassId) (X : va_W) (S : wPS) {a : Nat} (hL : a ∈ S.L) (h : S.K a = 0) : ∃ k : Nat, (X ++ va_pl S.L (wPF cyI cyJ cyZ cyO28f5b cyOff204 S))[k]? = some (a, wPF cyI cyJ cyZ cyO28f5b cyOff204 S a) ∧ (X ++ va_pl S.L (wPF cyI cyJ cyZ cyO28f5b cyOff204 S))[k]? = some (a, .inr (0, [va_rf (S.O_Fund.f_house a), .int (S.O_Fund.f_projects a), va_rf (S.O_Fund.f_gifts a), va_rf (S.O_Fund.f_bonds a), va_rf (S.O_Fund.f_lows a)])) := by
  obtain ⟨k, hk⟩ := va_pl_get (X := X) (f := wPF cyI cyJ cyZ cyO28f5b cyOff204 S) hL
  exact ⟨k, hk, hk.trans (congrArg (fun e => some (a, e)) (wAt_O_Fund cyI cyJ cyZ cyO28f5b cyOff204 S h))⟩
theorem wSt_O_Fund_f_house (cyI : ClassId) (cyJ : ClassId) (cyZ : ClassId) (cyO28f5b : ClassId) (cyOff204 : ClassId) (S : wPS) {a : Nat} (h : S.K a = 0) (v : Option Nat) (b : Nat) : va_up (wPF cyI cyJ cyZ cyO28f5b cyOff204 S) a (.inr (0, [va_rf v, .int (S.O_Fund.f_projects a), va_rf (S.O_Fund.f_gifts a), va_rf (S.O_Fund.f_bonds a), va_rf (S.O_Fund.f_lows a)])) b = wPF cyI cyJ cyZ cyO28f5b cyOff204 { S with O_Fund := { S.O_Fund with f_house := va_up S.O_Fund.f_house a v } } b := by by_cases hb : b = a <;> first | (simp only [wPF, va_up_ne _ _ hb]; done) | (simp only [wPF, va_up, if_neg hb]; done) | simp [wPF, va_re, va_up, va_rf, hb, h]
theorem wPu_O_Fund_f_house (cyI : ClassId) (cyJ : ClassId) (cyZ : ClassId) (cyO28f5b : ClassId) (cyOff204 : ClassId) (X : va_W) (S : wPS) {A : Nat → Prop} {a k : Nat} (hD : va_D A (X ++ va_pl S.L (wPF cyI cyJ cyZ cyO28f5b cyOff204 S))) (hL : a ∈ S.L) (h : S.K a = 0) (hk : (X ++ va_pl S.L (wPF cyI cyJ cyZ cyO28f5b cyOff204 S))[k]? = some (a, wPF cyI cyJ cyZ cyO28f5b cyOff204 S a)) (v : Option Nat) : (X ++ va_pl S.L (wPF cyI cyJ cyZ cyO28f5b cyOff204 S)).set k (a, .inr (0, [va_rf v, .int (S.O_Fund.f_projects a), va_rf (S.O_Fund.f_gifts a), va_rf (S.O_Fund.f_bonds a), va_rf (S.O_Fund.f_lows a)])) = X ++ va_pl S.L (wPF cyI cyJ cyZ cyO28f5b cyOff204 { S with O_Fund := { S.O_Fund with f_house := va_up S.O_Fund.f_house a v } }) := by
  rw [va_pl_set hD hL hk]
  exact congrArg (fun l => X ++ l) (va_pl_congr (wSt_O_Fund_f_house cyI cyJ cyZ cyO28f5b cyOff204 S h v))
theorem wSt_O_Fund_f_projects (cyI : ClassId) (cyJ : ClassId) (cyZ : ClassId) (cyO28f5b : ClassId) (cyOff204 : ClassId) (S : wPS) {a : Nat} (h : S.K a = 0) (v : Int32) (b : Nat) : va_up (wPF cyI cyJ cyZ cyO28f5b cyOff204 S) a (.inr (0, [va_rf (S.O_Fund.f_house a), .int v, va_rf (S.O_Fund.f_gifts a), va_rf (S.O_Fund.f_bonds a), va_rf (S.O_Fund.f_lows a)])) b = wPF cyI cyJ cyZ cyO28f5b cyOff204 { S with O_Fund := { S.O_Fund with f_projects := va_up S.O_Fund.f_projects a v } } b := by by_cases hb : b = a <;> first | (simp only [wPF, va_up_ne _ _ hb]; done) | (simp only [wPF, va_up, if_neg hb]; done) | simp [wPF, va_re, va_up, va_rf, hb, h]
theorem wPu_O_Fund_f_projects (cyI : ClassId) (cyJ : ClassId) (cyZ : ClassId) (cyO28f5b : ClassId) (cyOff204 : ClassId) (X : va_W) (S : wPS) {A : Nat → Prop} {a k : Nat} (hD : va_D A (X ++ va_pl S.L (wPF cyI cyJ cyZ cyO28f5b cyOff204 S))) (hL : a ∈ S.L) (h : S.K a = 0) (hk : (X ++ va_pl S.L (wPF cyI cyJ cyZ cyO28f5b cyOff204 S))[k]? = some (a, wPF cyI cyJ cyZ cyO28f5b cyOff204 S a)) (v : Int32) : (X ++ va_pl S.L (wPF cyI cyJ cyZ cyO28f5b cyOff204 S)).set k (a, .inr (0, [va_rf (S.O_Fund.f_house a), .int v, va_rf (S.O_Fund.f_gifts a), va_rf (S.O_Fund.f_bonds a), va_rf (S.O_Fund.f_lows a)])) = X ++ va_pl S.L (wPF cyI cyJ cyZ cyO28f5b cyOff204 { S with O_Fund := { S.O_Fund with f_projects := va_up S.O_Fund.f_projects a v } }) := by
  rw [va_pl_set hD hL hk]
  exact congrArg (fun l => X ++ l) (va_pl_congr (wSt_O_Fund_f_projects cyI cyJ cyZ cyO28f5b cyOff204 S h v))
theorem wSt_O_Fund_f_gifts (cyI : ClassId) (cyJ : ClassId) (cyZ : ClassId) (cyO28f5b : ClassId) (cyOff204 : ClassId) (S : wPS) {a : Nat} (h : S.K a = 0) (v : Option Nat) (b : Nat) : va_up (wPF cyI cyJ cyZ cyO28f5b cyOff204 S) a (.inr (0, [va_rf (S.O_Fund.f_house a), .int (S.O_Fund.f_projects a), va_rf v, va_rf (S.O_Fund.f_bonds a), va_rf (S.O_Fund.f_lows a)])) b = wPF cyI cyJ cyZ cyO28f5b cyOff204 { S with O_Fund := { S.O_Fund with f_gifts := va_up S.O_Fund.f_gifts a v } } b := by by_cases hb : b = a <;> first | (simp only [wPF, va_up_ne _ _ hb]; done) | (simp only [wPF, va_up, if_neg hb]; done) | simp [wPF, va_re, va_up, va_rf, hb, h]
theorem wPu_O_Fund_f_gifts (cyI : ClassId) (cyJ : ClassId) (cyZ : ClassId) (cyO28f5b : ClassId) (cyOff204 : ClassId) (X : va_W) (S : wPS) {A : Nat → Prop} {a k : Nat} (hD : va_D A (X ++ va_pl S.L (wPF cyI cyJ cyZ cyO28f5b cyOff204 S))) (hL : a ∈ S.L) (h : S.K a = 0) (hk : (X ++ va_pl S.L (wPF cyI cyJ cyZ cyO28f5b cyOff204 S))[k]? = some (a, wPF cyI cyJ cyZ cyO28f5b cyOff204 S a)) (v : Option Nat) : (X ++ va_pl S.L (wPF cyI cyJ cyZ cyO28f5b cyOff204 S)).set k (a, .inr (0, [va_rf (S.O_Fund.f_house a), .int (S.O_Fund.f_projects a), va_rf v, va_rf (S.O_Fund.f_bonds a), va_rf (S.O_Fund.f_lows a)])) = X ++ va_pl S.L (wPF cyI cyJ cyZ cyO28f5b cyOff204 { S with O_Fund := { S.O_Fund with f_gifts := va_up S.O_Fund.f_gifts a v } }) := by
  rw [va_pl_set hD hL hk]
  exact congrArg (fun l => X ++ l) (va_pl_congr (wSt_O_Fund_f_gifts cyI cyJ cyZ cyO28f5b cyOff204 S h v))
theorem wSt_O_Fund_f_bonds (cyI : ClassId) (cyJ : ClassId) (cyZ : ClassId) (cyO28f5b : ClassId) (cyOff204 : ClassId) (S : wPS) {a : Nat} (h : S.K a = 0) (v : Option Nat) (b : Nat) : va_up (wPF cyI cyJ cyZ cyO28f5b cyOff204 S) a (.inr (0, [va_rf (S.O_Fund.f_house a), .int (S.O_Fund.f_projects a), va_rf (S.O_Fund.f_gifts a), va_rf v, va_rf (S.O_Fund.f_lows a)])) b = wPF cyI cyJ cyZ cyO28f5b cyOff204 { S with O_Fund := { S.O_Fund with f_bonds := va_up S.O_Fund.f_bonds a v } } b := by by_cases hb : b = a <;> first | (simp only [wPF, va_up_ne _ _ hb]; done) | (simp only [wPF, va_up, if_neg hb]; done) | simp [wPF, va_re, va_up, va_rf, hb, h]
theorem wPu_O_Fund_f_bonds (cyI : ClassId) (cyJ : ClassId) (cyZ : ClassId) (cyO28f5b : ClassId) (cyOff204 : ClassId) (X : va_W) (S : wPS) {A : Nat → Prop} {a k : Nat} (hD : va_D A (X ++ va_pl S.L (wPF cyI cyJ cyZ cyO28f5b cyOff204 S))) (hL : a ∈ S.L) (h : S.K a = 0) (hk : (X ++ va_pl S.L (wPF cyI cyJ cyZ cyO28f5b cyOff204 S))[k]? = some (a, wPF cyI cyJ cyZ cyO28f5b cyOff204 S a)) (v : Option Nat) : (X ++ va_pl S.L (wPF cyI cyJ cyZ cyO28f5b cyOff204 S)).set k (a, .inr (0, [va_rf (S.O_Fund.f_house a), .int (S.O_Fund.f_projects a), va_rf (S.O_Fund.f_gifts a), va_rf v, va_rf (S.O_Fund.f_lows a)])) = X ++ va_pl S.L (wPF cyI cyJ cyZ cyO28f5b cyOff204 { S with O_Fund := { S.O_Fund with f_bonds := va_up S.O_Fund.f_bonds a v } }) := by
  rw [va_pl_set hD hL hk]
  exact congrArg (fun l => X ++ l) (va_pl_congr (wSt_O_Fund_f_bonds cyI cyJ cyZ cyO28f5b cyOff204 S h v))
theorem wSt_O_Fund_f_lows (cyI : ClassId) (cyJ : ClassId) (cyZ : ClassId) (cyO28f5b : ClassId) (cyOff204 : ClassId) (S : wPS) {a : Nat} (h : S.K a = 0) (v : Option Nat) (b : Nat) : va_up (wPF cyI cyJ cyZ cyO28f5b cyOff204 S) a (.inr (0, [va_rf (S.O_Fund.f_house a), .int (S.O_Fund.f_projects a), va_rf (S.O_Fund.f_gifts a), va_rf (S.O_Fund.f_bonds a), va_rf v])) b = wPF cyI cyJ cyZ cyO28f5b cyOff204 { S with O_Fund := { S.O_Fund with f_lows := va_up S.O_Fund.f_lows a v } } b := by by_cases hb : b = a <;> first | (simp only [wPF, va_up_ne _ _ hb]; done) | (simp only [wPF, va_up, if_neg hb]; done) | simp [wPF, va_re, va_up, va_rf, hb, h]
theorem wPu_O_Fund_f_lows (cyI : ClassId) (cyJ : ClassId) (cyZ : ClassId) (cyO28f5b : ClassId) (cyOff204 : ClassId) (X : va_W) (S : wPS) {A : Nat → Prop} {a k : Nat} (hD : va_D A (X ++ va_pl S.L (wPF cyI cyJ cyZ cyO28f5b cyOff204 S))) (hL : a ∈ S.L) (h : S.K a = 0) (hk : (X ++ va_pl S.L (wPF cyI cyJ cyZ cyO28f5b cyOff204 S))[k]? = some (a, wPF cyI cyJ cyZ cyO28f5b cyOff204 S a)) (v : Option Nat) : (X ++ va_pl S.L (wPF cyI cyJ cyZ cyO28f5b cyOff204 S)).set k (a, .inr (0, [va_rf (S.O_Fund.f_house a), .int (S.O_Fund.f_projects a), va_rf (S.O_Fund.f_gifts a), va_rf (S.O_Fund.f_bonds a), va_rf v])) = X ++ va_pl S.L (wPF cyI cyJ cyZ cyO28f5b cyOff204 { S with O_Fund := { S.O_Fund with f_lows := va_up S.O_Fund.f_lows a v } }) := by
  rw [va_pl_set hD hL hk]
  exact congrArg (fun l => X ++ l) (va_pl_congr (wSt_O_Fund_f_lows cyI cyJ cyZ cyO28f5b cyOff204 S h v))
theorem wNw_O_Fund (cyI : ClassId) (cyJ : ClassId) (cyZ : ClassId) (cyO28f5b : ClassId) (cyOff204 : ClassId) (S : wPS) (a b : Nat) : va_up (wPF cyI cyJ cyZ cyO28f5b cyOff204 S) a (.inr (0, [.null, .int 0, .null, .null, .null])) b = wPF cyI cyJ cyZ cyO28f5b cyOff204 { S with L := S.L ++ [a], K := va_up S.K a 0, O_Fund := { f_house := va_up S.O_Fund.f_house a none, f_projects := va_up S.O_Fund.f_projects a 0, f_gifts := va_up S.O_Fund.f_gifts a none, f_bonds := va_up S.O_Fund.f_bonds a none, f_lows := va_up S.O_Fund.f_lows a none } } b := by by_cases hb : b = a <;> first | (simp only [wPF, va_up_ne _ _ hb]; done) | (simp only [wPF, va_up, if_neg hb]; done) | simp [wPF, va_re, va_up, va_rf, hb]
theorem wPn_O_Fund (cyI : ClassId) (cyJ : ClassId) (cyZ : ClassId) (cyO28f5b : ClassId) (cyOff204 : ClassId) (X : va_W) (S : wPS) {a : Nat} (ha : a ∉ S.L) : (X ++ va_pl S.L (wPF cyI cyJ cyZ cyO28f5b cyOff204 S)) ++ [(a, .inr (0, [.null, .int 0, .null, .null, .null]))] = X ++ va_pl (S.L ++ [a]) (wPF cyI cyJ cyZ cyO28f5b cyOff204 { S with L := S.L ++ [a], K := va_up S.K a 0, O_Fund := { f_house := va_up S.O_Fund.f_house a none, f_projects := va_up S.O_Fund.f_projects a 0, f_gifts := va_up S.O_Fund.f_gifts a none, f_bonds := va_up S.O_Fund.f_bonds a none, f_lows := va_up S.O_Fund.f_lows a none } }) := by
  rw [List.append_assoc, va_pl_push ha]
  exact congrArg (fun l => X ++ l) (va_pl_congr (wNw_O_Fund cyI cyJ cyZ cyO28f5b cyOff204 S a))
theorem wAt_O_House (cyI : ClassId) (cyJ : ClassId) (cyZ : ClassId) (cyO28f5b : ClassId) (cyOff204 : ClassId) (S : wPS) {a : Nat} (h : S.K a = 1) : wPF cyI cyJ cyZ cyO28f5b cyOff204 S a = .inr (1, [.int (S.O_House.f_people a), .int (S.O_House.f_questions a), .int (S.O_House.f_seed a), va_rf (S.O_House.f_budgets a), va_rf (S.O_House.f_present a), va_rf (S.O_House.f_voices a), va_rf (S.O_House.f_worths a)]) := by simp [wPF, h]
theorem wGt_O_House (cyI : ClassId) (cyJ : ClassId) (cyZ : ClassId) (cyO28f5b : ClassId) (cyOff204 : ClassId) (X : va_W) (S : wPS) {a : Nat} (hL : a ∈ S.L) (h : S.K a = 1) : ∃ k : Nat, (X ++ va_pl S.L (wPF cyI cyJ cyZ cyO28f5b cyOff204 S))[k]? = some (a, wPF cyI cyJ cyZ cyO28f5b cyOff204 S a) ∧ (X ++ va_pl S.L (wPF cyI cyJ cyZ cyO28f5b cyOff204 S))[k]? = some (a, .inr (1, [.int (S.O_House.f_people a), .int (S.O_House.f_questions a), .int (S.O_House.f_seed a), va_rf (S.O_House.f_budgets a), va_rf (S.O_House.f_present a), va_rf (S.O_House.f_voices a), va_rf (S.O_House.f_worths a)])) := by
  obtain ⟨k, hk⟩ := va_pl_get (X := X) (f := wPF cyI cyJ cyZ cyO28f5b cyOff204 S) hL
  exact ⟨k, hk, hk.trans (congrArg (fun e => some (a, e)) (wAt_O_House cyI cyJ cyZ cyO28f5b cyOff204 S h))⟩
theorem wSt_O_House_f_people (cyI : ClassId) (cyJ : ClassId) (cyZ : ClassId) (cyO28f5b : ClassId) (cyOff204 : ClassId) (S : wPS) {a : Nat} (h : S.K a = 1) (v : Int32) (b : Nat) : va_up (wPF cyI cyJ cyZ cyO28f5b cyOff204 S) a (.inr (1, [.int v, .int (S.O_House.f_questions a), .int (S.O_House.f_seed a), va_rf (S.O_House.f_budgets a), va_rf (S.O_House.f_present a), va_rf (S.O_House.f_voices a), va_rf (S.O_House.f_worths a)])) b = wPF cyI cyJ cyZ cyO28f5b cyOff204 { S with O_House := { S.O_House with f_people := va_up S.O_House.f_people a v } } b := by by_cases hb : b = a <;> first | (simp only [wPF, va_up_ne _ _ hb]; done) | (simp only [wPF, va_up, if_neg hb]; done) | simp [wPF, va_re, va_up, va_rf, hb, h]
theorem wPu_O_House_f_people (cyI : ClassId) (cyJ : ClassId) (cyZ : ClassId) (cyO28f5b : ClassId) (cyOff204 : ClassId) (X : va_W) (S : wPS) {A : Nat → Prop} {a k : Nat} (hD : va_D A (X ++ va_pl S.L (wPF cyI cyJ cyZ cyO28f5b cyOff204 S))) (hL : a ∈ S.L) (h : S.K a = 1) (hk : (X ++ va_pl S.L (wPF cyI cyJ cyZ cyO28f5b cyOff204 S))[k]? = some (a, wPF cyI cyJ cyZ cyO28f5b cyOff204 S a)) (v : Int32) : (X ++ va_pl S.L (wPF cyI cyJ cyZ cyO28f5b cyOff204 S)).set k (a, .inr (1, [.int v, .int (S.O_House.f_questions a), .int (S.O_House.f_seed a), va_rf (S.O_House.f_budgets a), va_rf (S.O_House.f_present a), va_rf (S.O_House.f_voices a), va_rf (S.O_House.f_worths a)])) = X ++ va_pl S.L (wPF cyI cyJ cyZ cyO28f5b cyOff204 { S with O_House := { S.O_House with f_people := va_up S.O_House.f_people a v } }) := by
  rw [va_pl_set hD hL hk]
  exact congrArg (fun l => X ++ l) (va_pl_congr (wSt_O_House_f_people cyI cyJ cyZ cyO28f5b cyOff204 S h v))
theorem wSt_O_House_f_questions (cyI : ClassId) (cyJ : ClassId) (cyZ : ClassId) (cyO28f5b : ClassId) (cyOff204 : ClassId) (S : wPS) {a : Nat} (h : S.K a = 1) (v : Int32) (b : Nat) : va_up (wPF cyI cyJ cyZ cyO28f5b cyOff204 S) a (.inr (1, [.int (S.O_House.f_people a), .int v, .int (S.O_House.f_seed a), va_rf (S.O_House.f_budgets a), va_rf (S.O_House.f_present a), va_rf (S.O_House.f_voices a), va_rf (S.O_House.f_worths a)])) b = wPF cyI cyJ cyZ cyO28f5b cyOff204 { S with O_House := { S.O_House with f_questions := va_up S.O_House.f_questions a v } } b := by by_cases hb : b = a <;> first | (simp only [wPF, va_up_ne _ _ hb]; done) | (simp only [wPF, va_up, if_neg hb]; done) | simp [wPF, va_re, va_up, va_rf, hb, h]
theorem wPu_O_House_f_questions (cyI : ClassId) (cyJ : ClassId) (cyZ : ClassId) (cyO28f5b : ClassId) (cyOff204 : ClassId) (X : va_W) (S : wPS) {A : Nat → Prop} {a k : Nat} (hD : va_D A (X ++ va_pl S.L (wPF cyI cyJ cyZ cyO28f5b cyOff204 S))) (hL : a ∈ S.L) (h : S.K a = 1) (hk : (X ++ va_pl S.L (wPF cyI cyJ cyZ cyO28f5b cyOff204 S))[k]? = some (a, wPF cyI cyJ cyZ cyO28f5b cyOff204 S a)) (v : Int32) : (X ++ va_pl S.L (wPF cyI cyJ cyZ cyO28f5b cyOff204 S)).set k (a, .inr (1, [.int (S.O_House.f_people a), .int v, .int (S.O_House.f_seed a), va_rf (S.O_House.f_budgets a), va_rf (S.O_House.f_present a), va_rf (S.O_House.f_voices a), va_rf (S.O_House.f_worths a)])) = X ++ va_pl S.L (wPF cyI cyJ cyZ cyO28f5b cyOff204 { S with O_House := { S.O_House with f_questions := va_up S.O_House.f_questions a v } }) := by
  rw [va_pl_set hD hL hk]
  exact congrArg (fun l => X ++ l) (va_pl_congr (wSt_O_House_f_questions cyI cyJ cyZ cyO28f5b cyOff204 S h v))
theorem wSt_O_House_f_seed (cyI : ClassId) (cyJ : ClassId) (cyZ : ClassId) (cyO28f5b : ClassId) (cyOff204 : ClassId) (S : wPS) {a : Nat} (h : S.K a = 1) (v : Int32) (b : Nat) : va_up (wPF cyI cyJ cyZ cyO28f5b cyOff204 S) a (.inr (1, [.int (S.O_House.f_people a), .int (S.O_House.f_questions a), .int v, va_rf (S.O_House.f_budgets a), va_rf (S.O_House.f_present a), va_rf (S.O_House.f_voices a), va_rf (S.O_House.f_worths a)])) b = wPF cyI cyJ cyZ cyO28f5b cyOff204 { S with O_House := { S.O_House with f_seed := va_up S.O_House.f_seed a v } } b := by by_cases hb : b = a <;> first | (simp only [wPF, va_up_ne _ _ hb]; done) | (simp only [wPF, va_up, if_neg hb]; done) | simp [wPF, va_re, va_up, va_rf, hb, h]
theorem wPu_O_House_f_seed (cyI : ClassId) (cyJ : ClassId) (cyZ : ClassId) (cyO28f5b : ClassId) (cyOff204 : ClassId) (X : va_W) (S : wPS) {A : Nat → Prop} {a k : Nat} (hD : va_D A (X ++ va_pl S.L (wPF cyI cyJ cyZ cyO28f5b cyOff204 S))) (hL : a ∈ S.L) (h : S.K a = 1) (hk : (X ++ va_pl S.L (wPF cyI cyJ cyZ cyO28f5b cyOff204 S))[k]? = some (a, wPF cyI cyJ cyZ cyO28f5b cyOff204 S a)) (v : Int32) : (X ++ va_pl S.L (wPF cyI cyJ cyZ cyO28f5b cyOff204 S)).set k (a, .inr (1, [.int (S.O_House.f_people a), .int (S.O_House.f_questions a), .int v, va_rf (S.O_House.f_budgets a), va_rf (S.O_House.f_present a), va_rf (S.O_House.f_voices a), va_rf (S.O_House.f_worths a)])) = X ++ va_pl S.L (wPF cyI cyJ cyZ cyO28f5b cyOff204 { S with O_House := { S.O_House with f_seed := va_up S.O_House.f_seed a v } }) := by
  rw [va_pl_set hD hL hk]
  exact congrArg (fun l => X ++ l) (va_pl_congr (wSt_O_House_f_seed cyI cyJ cyZ cyO28f5b cyOff204 S h v))
theorem wSt_O_House_f_budgets (cyI : ClassId) (cyJ : ClassId) (cyZ : ClassId) (cyO28f5b : ClassId) (cyOff204 : ClassId) (S : wPS) {a : Nat} (h : S.K a = 1) (v : Option Nat) (b : Nat) : va_up (wPF cyI cyJ cyZ cyO28f5b cyOff204 S) a (.inr (1, [.int (S.O_House.f_people a), .int (S.O_House.f_questions a), .int (S.O_House.f_seed a), va_rf v, va_rf (S.O_House.f_present a), va_rf (S.O_House.f_voices a), va_rf (S.O_House.f_worths a)])) b = wPF cyI cyJ cyZ cyO28f5b cyOff204 { S with O_House := { S.O_House with f_budgets := va_up S.O_House.f_budgets a v } } b := by by_cases hb : b = a <;> first | (simp only [wPF, va_up_ne _ _ hb]; done) | (simp only [wPF, va_up, if_neg hb]; done) | simp [wPF, va_re, va_up, va_rf, hb, h]
theorem wPu_O_House_f_budgets (cyI : ClassId) (cyJ : ClassId) (cyZ : ClassId) (cyO28f5b : ClassId) (cyOff204 : ClassId) (X : va_W) (S : wPS) {A : Nat → Prop} {a k : Nat} (hD : va_D A (X ++ va_pl S.L (wPF cyI cyJ cyZ cyO28f5b cyOff204 S))) (hL : a ∈ S.L) (h : S.K a = 1) (hk : (X ++ va_pl S.L (wPF cyI cyJ cyZ cyO28f5b cyOff204 S))[k]? = some (a, wPF cyI cyJ cyZ cyO28f5b cyOff204 S a)) (v : Option Nat) : (X ++ va_pl S.L (wPF cyI cyJ cyZ cyO28f5b cyOff204 S)).set k (a, .inr (1, [.int (S.O_House.f_people a), .int (S.O_House.f_questions a), .int (S.O_House.f_seed a), va_rf v, va_rf (S.O_House.f_present a), va_rf (S.O_House.f_voices a), va_rf (S.O_House.f_worths a)])) = X ++ va_pl S.L (wPF cyI cyJ cyZ cyO28f5b cyOff204 { S with O_House := { S.O_House with f_budgets := va_up S.O_House.f_budgets a v } }) := by
  rw [va_pl_set hD hL hk]
  exact congrArg (fun l => X ++ l) (va_pl_congr (wSt_O_House_f_budgets cyI cyJ cyZ cyO28f5b cyOff204 S h v))
theorem wSt_O_House_f_present (cyI : ClassId) (cyJ : ClassId) (cyZ : ClassId) (cyO28f5b : ClassId) (cyOff204 : ClassId) (S : wPS) {a : Nat} (h : S.K a = 1) (v : Option Nat) (b : Nat) : va_up (wPF cyI cyJ cyZ cyO28f5b cyOff204 S) a (.inr (1, [.int (S.O_House.f_people a), .int (S.O_House.f_questions a), .int (S.O_House.f_seed a), va_rf (S.O_House.f_budgets a), va_rf v, va_rf (S.O_House.f_voices a), va_rf (S.O_House.f_worths a)])) b = wPF cyI cyJ cyZ cyO28f5b cyOff204 { S with O_House := { S.O_House with f_present := va_up S.O_House.f_present a v } } b := by by_cases hb : b = a <;> first | (simp only [wPF, va_up_ne _ _ hb]; done) | (simp only [wPF, va_up, if_neg hb]; done) | simp [wPF, va_re, va_up, va_rf, hb, h]
theorem wPu_O_House_f_present (cyI : ClassId) (cyJ : ClassId) (cyZ : ClassId) (cyO28f5b : ClassId) (cyOff204 : ClassId) (X : va_W) (S : wPS) {A : Nat → Prop} {a k : Nat} (hD : va_D A (X ++ va_pl S.L (wPF cyI cyJ cyZ cyO28f5b cyOff204 S))) (hL : a ∈ S.L) (h : S.K a = 1) (hk : (X ++ va_pl S.L (wPF cyI cyJ cyZ cyO28f5b cyOff204 S))[k]? = some (a, wPF cyI cyJ cyZ cyO28f5b cyOff204 S a)) (v : Option Nat) : (X ++ va_pl S.L (wPF cyI cyJ cyZ cyO28f5b cyOff204 S)).set k (a, .inr (1, [.int (S.O_House.f_people a), .int (S.O_House.f_questions a), .int (S.O_House.f_seed a), va_rf (S.O_House.f_budgets a), va_rf v, va_rf (S.O_House.f_voices a), va_rf (S.O_House.f_worths a)])) = X ++ va_pl S.L (wPF cyI cyJ cyZ cyO28f5b cyOff204 { S with O_House := { S.O_House with f_present := va_up S.O_House.f_present a v } }) := by
  rw [va_pl_set hD hL hk]
  exact congrArg (fun l => X ++ l) (va_pl_congr (wSt_O_House_f_present cyI cyJ cyZ cyO28f5b cyOff204 S h v))
theorem wSt_O_House_f_voices (cyI : ClassId) (cyJ : ClassId) (cyZ : ClassId) (cyO28f5b : ClassId) (cyOff204 : ClassId) (S : wPS) {a : Nat} (h : S.K a = 1) (v : Option Nat) (b : Nat) : va_up (wPF cyI cyJ cyZ cyO28f5b cyOff204 S) a (.inr (1, [.int (S.O_House.f_people a), .int (S.O_House.f_questions a), .int (S.O_House.f_seed a), va_rf (S.O_House.f_budgets a), va_rf (S.O_House.f_present a), va_rf v, va_rf (S.O_House.f_worths a)])) b = wPF cyI cyJ cyZ cyO28f5b cyOff204 { S with O_House := { S.O_House with f_voices := va_up S.O_House.f_voices a v } } b := by by_cases hb : b = a <;> first | (simp only [wPF, va_up_ne _ _ hb]; done) | (simp only [wPF, va_up, if_neg hb]; done) | simp [wPF, va_re, va_up, va_rf, hb, h]
theorem wPu_O_House_f_voices (cyI : ClassId) (cyJ : ClassId) (cyZ : ClassId) (cyO28f5b : ClassId) (cyOff204 : ClassId) (X : va_W) (S : wPS) {A : Nat → Prop} {a k : Nat} (hD : va_D A (X ++ va_pl S.L (wPF cyI cyJ cyZ cyO28f5b cyOff204 S))) (hL : a ∈ S.L) (h : S.K a = 1) (hk : (X ++ va_pl S.L (wPF cyI cyJ cyZ cyO28f5b cyOff204 S))[k]? = some (a, wPF cyI cyJ cyZ cyO28f5b cyOff204 S a)) (v : Option Nat) : (X ++ va_pl S.L (wPF cyI cyJ cyZ cyO28f5b cyOff204 S)).set k (a, .inr (1, [.int (S.O_House.f_people a), .int (S.O_House.f_questions a), .int (S.O_House.f_seed a), va_rf (S.O_House.f_budgets a), va_rf (S.O_House.f_present a), va_rf v, va_rf (S.O_House.f_worths a)])) = X ++ va_pl S.L (wPF cyI cyJ cyZ cyO28f5b cyOff204 { S with O_House := { S.O_House with f_voices := va_up S.O_House.f_voices a v } }) := by
  rw [va_pl_set hD hL hk]
  exact congrArg (fun l => X ++ l) (va_pl_congr (wSt_O_House_f_voices cyI cyJ cyZ cyO28f5b cyOff204 S h v))
theorem wSt_O_House_f_worths (cyI : ClassId) (cyJ : ClassId) (cyZ : ClassId) (cyO28f5b : ClassId) (cyOff204 : ClassId) (S : wPS) {a : Nat} (h : S.K a = 1) (v : Option Nat) (b : Nat) : va_up (wPF cyI cyJ cyZ cyO28f5b cyOff204 S) a (.inr (1, [.int (S.O_House.f_people a), .int (S.O_House.f_questions a), .int (S.O_House.f_seed a), va_rf (S.O_House.f_budgets a), va_rf (S.O_House.f_present a), va_rf (S.O_House.f_voices a), va_rf v])) b = wPF cyI cyJ cyZ cyO28f5b cyOff204 { S with O_House := { S.O_House with f_worths := va_up S.O_House.f_worths a v } } b := by by_cases hb : b = a <;> first | (simp only [wPF, va_up_ne _ _ hb]; done) | (simp only [wPF, va_up, if_neg hb]; done) | simp [wPF, va_re, va_up, va_rf, hb, h]
theorem wPu_O_House_f_worths (cyI : ClassId) (cyJ : ClassId) (cyZ : ClassId) (cyO28f5b : ClassId) (cyOff204 : ClassId) (X : va_W) (S : wPS) {A : Nat → Prop} {a k : Nat} (hD : va_D A (X ++ va_pl S.L (wPF cyI cyJ cyZ cyO28f5b cyOff204 S))) (hL : a ∈ S.L) (h : S.K a = 1) (hk : (X ++ va_pl S.L (wPF cyI cyJ cyZ cyO28f5b cyOff204 S))[k]? = some (a, wPF cyI cyJ cyZ cyO28f5b cyOff204 S a)) (v : Option Nat) : (X ++ va_pl S.L (wPF cyI cyJ cyZ cyO28f5b cyOff204 S)).set k (a, .inr (1, [.int (S.O_House.f_people a), .int (S.O_House.f_questions a), .int (S.O_House.f_seed a), va_rf (S.O_House.f_budgets a), va_rf (S.O_House.f_present a), va_rf (S.O_House.f_voices a), va_rf v])) = X ++ va_pl S.L (wPF cyI cyJ cyZ cyO28f5b cyOff204 { S with O_House := { S.O_House with f_worths := va_up S.O_House.f_worths a v } }) := by
  rw [va_pl_set hD hL hk]
  exact congrArg (fun l => X ++ l) (va_pl_congr (wSt_O_House_f_worths cyI cyJ cyZ cyO28f5b cyOff204 S h v))
theorem wNw_O_House (cyI : ClassId) (cyJ : ClassId) (cyZ : ClassId) (cyO28f5b : ClassId) (cyOff204 : ClassId) (S : wPS) (a b : Nat) : va_up (wPF cyI cyJ cyZ cyO28f5b cyOff204 S) a (.inr (1, [.int 0, .int 0, .int 0, .null, .null, .null, .null])) b = wPF cyI cyJ cyZ cyO28f5b cyOff204 { S with L := S.L ++ [a], K := va_up S.K a 1, O_House := { f_people := va_up S.O_House.f_people a 0, f_questions := va_up S.O_House.f_questions a 0, f_seed := va_up S.O_House.f_seed a 0, f_budgets := va_up S.O_House.f_budgets a none, f_present := va_up S.O_House.f_present a none, f_voices := va_up S.O_House.f_voices a none, f_worths := va_up S.O_House.f_worths a none } } b := by by_cases hb : b = a <;> first | (simp only [wPF, va_up_ne _ _ hb]; done) | (simp only [wPF, va_up, if_neg hb]; done) | simp [wPF, va_re, va_up, va_rf, hb]
theorem wPn_O_House (cyI : ClassId) (cyJ : ClassId) (cyZ : ClassId) (cyO28f5b : ClassId) (cyOff204 : ClassId) (X : va_W) (S : wPS) {a : Nat} (ha : a ∉ S.L) : (X ++ va_pl S.L (wPF cyI cyJ cyZ cyO28f5b cyOff204 S)) ++ [(a, .inr (1, [.int 0, .int 0, .int 0, .null, .null, .null, .null]))] = X ++ va_pl (S.L ++ [a]) (wPF cyI cyJ cyZ cyO28f5b cyOff204 { S with L := S.L ++ [a], K := va_up S.K a 1, O_House := { f_people := va_up S.O_House.f_people a 0, f_questions := va_up S.O_House.f_questions a 0, f_seed := va_up S.O_House.f_seed a 0, f_budgets := va_up S.O_House.f_budgets a none, f_present := va_up S.O_House.f_present a none, f_voices := va_up S.O_House.f_voices a none, f_worths := va_up S.O_House.f_worths a none } }) := by
  rw [List.append_assoc, va_pl_push ha]
  exact congrArg (fun l => X ++ l) (va_pl_congr (wNw_O_House cyI cyJ cyZ cyO28f5b cyOff204 S a))
theorem wAt_O_Rounds (cyI : ClassId) (cyJ : ClassId) (cyZ : ClassId) (cyO28f5b : ClassId) (cyOff204 : ClassId) (S : wPS) {a : Nat} (h : S.K a = 2) : wPF cyI cyJ cyZ cyO28f5b cyOff204 S a = .inr (2, [va_rf (S.O_Rounds.f_house a), va_rf (S.O_Rounds.f_search a), va_rf (S.O_Rounds.f_trail a), .int (S.O_Rounds.f_doneEver a), .int (S.O_Rounds.f_changesEver a), .int (S.O_Rounds.f_ending a), .int (S.O_Rounds.f_ringLength a)]) := by simp [wPF, h]
theorem wGt_O_Rounds (cyI : ClassId) (cyJ : ClassId) (cyZ : ClassId) (cyO28f5b : ClassId) (cyOff204 : ClassId) (X : va_W) (S : wPS) {a : Nat} (hL : a ∈ S.L) (h : S.K a = 2) : ∃ k : Nat, (X ++ va_pl S.L (wPF cyI cyJ cyZ cyO28f5b cyOff204 S))[k]? = some (a, wPF cyI cyJ cyZ cyO28f5b cyOff204 S a) ∧ (X ++ va_pl S.L (wPF cyI cyJ cyZ cyO28f5b cyOff204 S))[k]? = some (a, .inr (2, [va_rf (S.O_Rounds.f_house a), va_rf (S.O_Rounds.f_search a), va_rf (S.O_Rounds.f_trail a), .int (S.O_Rounds.f_doneEver a), .int (S.O_Rounds.f_changesEver a), .int (S.O_Rounds.f_ending a), .int (S.O_Rounds.f_ringLength a)])) := by
  obtain ⟨k, hk⟩ := va_pl_get (X := X) (f := wPF cyI cyJ cyZ cyO28f5b cyOff204 S) hL
  exact ⟨k, hk, hk.trans (congrArg (fun e => some (a, e)) (wAt_O_Rounds cyI cyJ cyZ cyO28f5b cyOff204 S h))⟩
theorem wSt_O_Rounds_f_house (cyI : ClassId) (cyJ : ClassId) (cyZ : ClassId) (cyO28f5b : ClassId) (cyOff204 : ClassId) (S : wPS) {a : Nat} (h : S.K a = 2) (v : Option Nat) (b : Nat) : va_up (wPF cyI cyJ cyZ cyO28f5b cyOff204 S) a (.inr (2, [va_rf v, va_rf (S.O_Rounds.f_search a), va_rf (S.O_Rounds.f_trail a), .int (S.O_Rounds.f_doneEver a), .int (S.O_Rounds.f_changesEver a), .int (S.O_Rounds.f_ending a), .int (S.O_Rounds.f_ringLength a)])) b = wPF cyI cyJ cyZ cyO28f5b cyOff204 { S with O_Rounds := { S.O_Rounds with f_house := va_up S.O_Rounds.f_house a v } } b := by by_cases hb : b = a <;> first | (simp only [wPF, va_up_ne _ _ hb]; done) | (simp only [wPF, va_up, if_neg hb]; done) | simp [wPF, va_re, va_up, va_rf, hb, h]
theorem wPu_O_Rounds_f_house (cyI : ClassId) (cyJ : ClassId) (cyZ : ClassId) (cyO28f5b : ClassId) (cyOff204 : ClassId) (X : va_W) (S : wPS) {A : Nat → Prop} {a k : Nat} (hD : va_D A (X ++ va_pl S.L (wPF cyI cyJ cyZ cyO28f5b cyOff204 S))) (hL : a ∈ S.L) (h : S.K a = 2) (hk : (X ++ va_pl S.L (wPF cyI cyJ cyZ cyO28f5b cyOff204 S))[k]? = some (a, wPF cyI cyJ cyZ cyO28f5b cyOff204 S a)) (v : Option Nat) : (X ++ va_pl S.L (wPF cyI cyJ cyZ cyO28f5b cyOff204 S)).set k (a, .inr (2, [va_rf v, va_rf (S.O_Rounds.f_search a), va_rf (S.O_Rounds.f_trail a), .int (S.O_Rounds.f_doneEver a), .int (S.O_Rounds.f_changesEver a), .int (S.O_Rounds.f_ending a), .int (S.O_Rounds.f_ringLength a)])) = X ++ va_pl S.L (wPF cyI cyJ cyZ cyO28f5b cyOff204 { S with O_Rounds := { S.O_Rounds with f_house := va_up S.O_Rounds.f_house a v } }) := by
  rw [va_pl_set hD hL hk]
  exact congrArg (fun l => X ++ l) (va_pl_congr (wSt_O_Rounds_f_house cyI cyJ cyZ cyO28f5b cyOff204 S h v))
theorem wSt_O_Rounds_f_search (cyI : ClassId) (cyJ : ClassId) (cyZ : ClassId) (cyO28f5b : ClassId) (cyOff204 : ClassId) (S : wPS) {a : Nat} (h : S.K a = 2) (v : Option Nat) (b : Nat) : va_up (wPF cyI cyJ cyZ cyO28f5b cyOff204 S) a (.inr (2, [va_rf (S.O_Rounds.f_house a), va_rf v, va_rf (S.O_Rounds.f_trail a), .int (S.O_Rounds.f_doneEver a), .int (S.O_Rounds.f_changesEver a), .int (S.O_Rounds.f_ending a), .int (S.O_Rounds.f_ringLength a)])) b = wPF cyI cyJ cyZ cyO28f5b cyOff204 { S with O_Rounds := { S.O_Rounds with f_search := va_up S.O_Rounds.f_search a v } } b := by by_cases hb : b = a <;> first | (simp only [wPF, va_up_ne _ _ hb]; done) | (simp only [wPF, va_up, if_neg hb]; done) | simp [wPF, va_re, va_up, va_rf, hb, h]
theorem wPu_O_Rounds_f_search (cyI : ClassId) (cyJ : ClassId) (cyZ : ClassId) (cyO28f5b : ClassId) (cyOff204 : ClassId) (X : va_W) (S : wPS) {A : Nat → Prop} {a k : Nat} (hD : va_D A (X ++ va_pl S.L (wPF cyI cyJ cyZ cyO28f5b cyOff204 S))) (hL : a ∈ S.L) (h : S.K a = 2) (hk : (X ++ va_pl S.L (wPF cyI cyJ cyZ cyO28f5b cyOff204 S))[k]? = some (a, wPF cyI cyJ cyZ cyO28f5b cyOff204 S a)) (v : Option Nat) : (X ++ va_pl S.L (wPF cyI cyJ cyZ cyO28f5b cyOff204 S)).set k (a, .inr (2, [va_rf (S.O_Rounds.f_house a), va_rf v, va_rf (S.O_Rounds.f_trail a), .int (S.O_Rounds.f_doneEver a), .int (S.O_Rounds.f_changesEver a), .int (S.O_Rounds.f_ending a), .int (S.O_Rounds.f_ringLength a)])) = X ++ va_pl S.L (wPF cyI cyJ cyZ cyO28f5b cyOff204 { S with O_Rounds := { S.O_Rounds with f_search := va_up S.O_Rounds.f_search a v } }) := by
  rw [va_pl_set hD hL hk]
  exact congrArg (fun l => X ++ l) (va_pl_congr (wSt_O_Rounds_f_search cyI cyJ cyZ cyO28f5b cyOff204 S h v))
theorem wSt_O_Rounds_f_trail (cyI : ClassId) (cyJ : ClassId) (cyZ : ClassId) (cyO28f5b : ClassId) (cyOff204 : ClassId) (S : wPS) {a : Nat} (h : S.K a = 2) (v : Option Nat) (b : Nat) : va_up (wPF cyI cyJ cyZ cyO28f5b cyOff204 S) a (.inr (2, [va_rf (S.O_Rounds.f_house a), va_rf (S.O_Rounds.f_search a), va_rf v, .int (S.O_Rounds.f_doneEver a), .int (S.O_Rounds.f_changesEver a), .int (S.O_Rounds.f_ending a), .int (S.O_Rounds.f_ringLength a)])) b = wPF cyI cyJ cyZ cyO28f5b cyOff204 { S with O_Rounds := { S.O_Rounds with f_trail := va_up S.O_Rounds.f_trail a v } } b := by by_cases hb : b = a <;> first | (simp only [wPF, va_up_ne _ _ hb]; done) | (simp only [wPF, va_up, if_neg hb]; done) | simp [wPF, va_re, va_up, va_rf, hb, h]
theorem wPu_O_Rounds_f_trail (cyI : ClassId) (cyJ : ClassId) (cyZ : ClassId) (cyO28f5b : ClassId) (cyOff204 : ClassId) (X : va_W) (S : wPS) {A : Nat → Prop} {a k : Nat} (hD : va_D A (X ++ va_pl S.L (wPF cyI cyJ cyZ cyO28f5b cyOff204 S))) (hL : a ∈ S.L) (h : S.K a = 2) (hk : (X ++ va_pl S.L (wPF cyI cyJ cyZ cyO28f5b cyOff204 S))[k]? = some (a, wPF cyI cyJ cyZ cyO28f5b cyOff204 S a)) (v : Option Nat) : (X ++ va_pl S.L (wPF cyI cyJ cyZ cyO28f5b cyOff204 S)).set k (a, .inr (2, [va_rf (S.O_Rounds.f_house a), va_rf (S.O_Rounds.f_search a), va_rf v, .int (S.O_Rounds.f_doneEver a), .int (S.O_Rounds.f_changesEver a), .int (S.O_Rounds.f_ending a), .int (S.O_Rounds.f_ringLength a)])) = X ++ va_pl S.L (wPF cyI cyJ cyZ cyO28f5b cyOff204 { S with O_Rounds := { S.O_Rounds with f_trail := va_up S.O_Rounds.f_trail a v } }) := by
  rw [va_pl_set hD hL hk]
  exact congrArg (fun l => X ++ l) (va_pl_congr (wSt_O_Rounds_f_trail cyI cyJ cyZ cyO28f5b cyOff204 S h v))
theorem wSt_O_Rounds_f_doneEver (cyI : ClassId) (cyJ : ClassId) (cyZ : ClassId) (cyO28f5b : ClassId) (cyOff204 : ClassId) (S : wPS) {a : Nat} (h : S.K a = 2) (v : Int32) (b : Nat) : va_up (wPF cyI cyJ cyZ cyO28f5b cyOff204 S) a (.inr (2, [va_rf (S.O_Rounds.f_house a), va_rf (S.O_Rounds.f_search a), va_rf (S.O_Rounds.f_trail a), .int v, .int (S.O_Rounds.f_changesEver a), .int (S.O_Rounds.f_ending a), .int (S.O_Rounds.f_ringLength a)])) b = wPF cyI cyJ cyZ cyO28f5b cyOff204 { S with O_Rounds := { S.O_Rounds with f_doneEver := va_up S.O_Rounds.f_doneEver a v } } b := by by_cases hb : b = a <;> first | (simp only [wPF, va_up_ne _ _ hb]; done) | (simp only [wPF, va_up, if_neg hb]; done) | simp [wPF, va_re, va_up, va_rf, hb, h]
theorem wPu_O_Rounds_f_doneEver (cyI : ClassId) (cyJ : ClassId) (cyZ : ClassId) (cyO28f5b : ClassId) (cyOff204 : ClassId) (X : va_W) (S : wPS) {A : Nat → Prop} {a k : Nat} (hD : va_D A (X ++ va_pl S.L (wPF cyI cyJ cyZ cyO28f5b cyOff204 S))) (hL : a ∈ S.L) (h : S.K a = 2) (hk : (X ++ va_pl S.L (wPF cyI cyJ cyZ cyO28f5b cyOff204 S))[k]? = some (a, wPF cyI cyJ cyZ cyO28f5b cyOff204 S a)) (v : Int32) : (X ++ va_pl S.L (wPF cyI cyJ cyZ cyO28f5b cyOff204 S)).set k (a, .inr (2, [va_rf (S.O_Rounds.f_house a), va_rf (S.O_Rounds.f_search a), va_rf (S.O_Rounds.f_trail a), .int v, .int (S.O_Rounds.f_changesEver a), .int (S.O_Rounds.f_ending a), .int (S.O_Rounds.f_ringLength a)])) = X ++ va_pl S.L (wPF cyI cyJ cyZ cyO28f5b cyOff204 { S with O_Rounds := { S.O_Rounds with f_doneEver := va_up S.O_Rounds.f_doneEver a v } }) := by
  rw [va_pl_set hD hL hk]
  exact congrArg (fun l => X ++ l) (va_pl_congr (wSt_O_Rounds_f_doneEver cyI cyJ cyZ cyO28f5b cyOff204 S h v))
theorem wSt_O_Rounds_f_changesEver (cyI : ClassId) (cyJ : ClassId) (cyZ : ClassId) (cyO28f5b : ClassId) (cyOff204 : ClassId) (S : wPS) {a : Nat} (h : S.K a = 2) (v : Int32) (b : Nat) : va_up (wPF cyI cyJ cyZ cyO28f5b cyOff204 S) a (.inr (2, [va_rf (S.O_Rounds.f_house a), va_rf (S.O_Rounds.f_search a), va_rf (S.O_Rounds.f_trail a), .int (S.O_Rounds.f_doneEver a), .int v, .int (S.O_Rounds.f_ending a), .int (S.O_Rounds.f_ringLength a)])) b = wPF cyI cyJ cyZ cyO28f5b cyOff204 { S with O_Rounds := { S.O_Rounds with f_changesEver := va_up S.O_Rounds.f_changesEver a v } } b := by by_cases hb : b = a <;> first | (simp only [wPF, va_up_ne _ _ hb]; done) | (simp only [wPF, va_up, if_neg hb]; done) | simp [wPF, va_re, va_up, va_rf, hb, h]
theorem wPu_O_Rounds_f_changesEver (cyI : ClassId) (cyJ : ClassId) (cyZ : ClassId) (cyO28f5b : ClassId) (cyOff204 : ClassId) (X : va_W) (S : wPS) {A : Nat → Prop} {a k : Nat} (hD : va_D A (X ++ va_pl S.L (wPF cyI cyJ cyZ cyO28f5b cyOff204 S))) (hL : a ∈ S.L) (h : S.K a = 2) (hk : (X ++ va_pl S.L (wPF cyI cyJ cyZ cyO28f5b cyOff204 S))[k]? = some (a, wPF cyI cyJ cyZ cyO28f5b cyOff204 S a)) (v : Int32) : (X ++ va_pl S.L (wPF cyI cyJ cyZ cyO28f5b cyOff204 S)).set k (a, .inr (2, [va_rf (S.O_Rounds.f_house a), va_rf (S.O_Rounds.f_search a), va_rf (S.O_Rounds.f_trail a), .int (S.O_Rounds.f_doneEver a), .int v, .int (S.O_Rounds.f_ending a), .int (S.O_Rounds.f_ringLength a)])) = X ++ va_pl S.L (wPF cyI cyJ cyZ cyO28f5b cyOff204 { S with O_Rounds := { S.O_Rounds with f_changesEver := va_up S.O_Rounds.f_changesEver a v } }) := by
  rw [va_pl_set hD hL hk]
  exact congrArg (fun l => X ++ l) (va_pl_congr (wSt_O_Rounds_f_changesEver cyI cyJ cyZ cyO28f5b cyOff204 S h v))
theorem wSt_O_Rounds_f_ending (cyI : ClassId) (cyJ : ClassId) (cyZ : ClassId) (cyO28f5b : ClassId) (cyOff204 : ClassId) (S : wPS) {a : Nat} (h : S.K a = 2) (v : Int32) (b : Nat) : va_up (wPF cyI cyJ cyZ cyO28f5b cyOff204 S) a (.inr (2, [va_rf (S.O_Rounds.f_house a), va_rf (S.O_Rounds.f_search a), va_rf (S.O_Rounds.f_trail a), .int (S.O_Rounds.f_doneEver a), .int (S.O_Rounds.f_changesEver a), .int v, .int (S.O_Rounds.f_ringLength a)])) b = wPF cyI cyJ cyZ cyO28f5b cyOff204 { S with O_Rounds := { S.O_Rounds with f_ending := va_up S.O_Rounds.f_ending a v } } b := by by_cases hb : b = a <;> first | (simp only [wPF, va_up_ne _ _ hb]; done) | (simp only [wPF, va_up, if_neg hb]; done) | simp [wPF, va_re, va_up, va_rf, hb, h]
theorem wPu_O_Rounds_f_ending (cyI : ClassId) (cyJ : ClassId) (cyZ : ClassId) (cyO28f5b : ClassId) (cyOff204 : ClassId) (X : va_W) (S : wPS) {A : Nat → Prop} {a k : Nat} (hD : va_D A (X ++ va_pl S.L (wPF cyI cyJ cyZ cyO28f5b cyOff204 S))) (hL : a ∈ S.L) (h : S.K a = 2) (hk : (X ++ va_pl S.L (wPF cyI cyJ cyZ cyO28f5b cyOff204 S))[k]? = some (a, wPF cyI cyJ cyZ cyO28f5b cyOff204 S a)) (v : Int32) : (X ++ va_pl S.L (wPF cyI cyJ cyZ cyO28f5b cyOff204 S)).set k (a, .inr (2, [va_rf (S.O_Rounds.f_house a), va_rf (S.O_Rounds.f_search a), va_rf (S.O_Rounds.f_trail a), .int (S.O_Rounds.f_doneEver a), .int (S.O_Rounds.f_changesEver a), .int v, .int (S.O_Rounds.f_ringLength a)])) = X ++ va_pl S.L (wPF cyI cyJ cyZ cyO28f5b cyOff204 { S with O_Rounds := { S.O_Rounds with f_ending := va_up S.O_Rounds.f_ending a v } }) := by
  rw [va_pl_set hD hL hk]
  exact congrArg (fun l => X ++ l) (va_pl_congr (wSt_O_Rounds_f_ending cyI cyJ cyZ cyO28f5b cyOff204 S h v))
theorem wSt_O_Rounds_f_ringLength (cyI : ClassId) (cyJ : ClassId) (cyZ : ClassId) (cyO28f5b : ClassId) (cyOff204 : ClassId) (S : wPS) {a : Nat} (h : S.K a = 2) (v : Int32) (b : Nat) : va_up (wPF cyI cyJ cyZ cyO28f5b cyOff204 S) a (.inr (2, [va_rf (S.O_Rounds.f_house a), va_rf (S.O_Rounds.f_search a), va_rf (S.O_Rounds.f_trail a), .int (S.O_Rounds.f_doneEver a), .int (S.O_Rounds.f_changesEver a), .int (S.O_Rounds.f_ending a), .int v])) b = wPF cyI cyJ cyZ cyO28f5b cyOff204 { S with O_Rounds := { S.O_Rounds with f_ringLength := va_up S.O_Rounds.f_ringLength a v } } b := by by_cases hb : b = a <;> first | (simp only [wPF, va_up_ne _ _ hb]; done) | (simp only [wPF, va_up, if_neg hb]; done) | simp [wPF, va_re, va_up, va_rf, hb, h]
theorem wPu_O_Rounds_f_ringLength (cyI : ClassId) (cyJ : ClassId) (cyZ : ClassId) (cyO28f5b : ClassId) (cyOff204 : ClassId) (X : va_W) (S : wPS) {A : Nat → Prop} {a k : Nat} (hD : va_D A (X ++ va_pl S.L (wPF cyI cyJ cyZ cyO28f5b cyOff204 S))) (hL : a ∈ S.L) (h : S.K a = 2) (hk : (X ++ va_pl S.L (wPF cyI cyJ cyZ cyO28f5b cyOff204 S))[k]? = some (a, wPF cyI cyJ cyZ cyO28f5b cyOff204 S a)) (v : Int32) : (X ++ va_pl S.L (wPF cyI cyJ cyZ cyO28f5b cyOff204 S)).set k (a, .inr (2, [va_rf (S.O_Rounds.f_house a), va_rf (S.O_Rounds.f_search a), va_rf (S.O_Rounds.f_trail a), .int (S.O_Rounds.f_doneEver a), .int (S.O_Rounds.f_changesEver a), .int (S.O_Rounds.f_ending a), .int v])) = X ++ va_pl S.L (wPF cyI cyJ cyZ cyO28f5b cyOff204 { S with O_Rounds := { S.O_Rounds with f_ringLength := va_up S.O_Rounds.f_ringLength a v } }) := by
  rw [va_pl_set hD hL hk]
  exact congrArg (fun l => X ++ l) (va_pl_congr (wSt_O_Rounds_f_ringLength cyI cyJ cyZ cyO28f5b cyOff204 S h v))
theorem wNw_O_Rounds (cyI : ClassId) (cyJ : ClassId) (cyZ : ClassId) (cyO28f5b : ClassId) (cyOff204 : ClassId) (S : wPS) (a b : Nat) : va_up (wPF cyI cyJ cyZ cyO28f5b cyOff204 S) a (.inr (2, [.null, .null, .null, .int 0, .int 0, .int 0, .int 0])) b = wPF cyI cyJ cyZ cyO28f5b cyOff204 { S with L := S.L ++ [a], K := va_up S.K a 2, O_Rounds := { f_house := va_up S.O_Rounds.f_house a none, f_search := va_up S.O_Rounds.f_search a none, f_trail := va_up S.O_Rounds.f_trail a none, f_doneEver := va_up S.O_Rounds.f_doneEver a 0, f_changesEver := va_up S.O_Rounds.f_changesEver a 0, f_ending := va_up S.O_Rounds.f_ending a 0, f_ringLength := va_up S.O_Rounds.f_ringLength a 0 } } b := by by_cases hb : b = a <;> first | (simp only [wPF, va_up_ne _ _ hb]; done) | (simp only [wPF, va_up, if_neg hb]; done) | simp [wPF, va_re, va_up, va_rf, hb]
theorem wPn_O_Rounds (cyI : ClassId) (cyJ : ClassId) (cyZ : ClassId) (cyO28f5b : ClassId) (cyOff204 : ClassId) (X : va_W) (S : wPS) {a : Nat} (ha : a ∉ S.L) : (X ++ va_pl S.L (wPF cyI cyJ cyZ cyO28f5b cyOff204 S)) ++ [(a, .inr (2, [.null, .null, .null, .int 0, .int 0, .int 0, .int 0]))] = X ++ va_pl (S.L ++ [a]) (wPF cyI cyJ cyZ cyO28f5b cyOff204 { S with L := S.L ++ [a], K := va_up S.K a 2, O_Rounds := { f_house := va_up S.O_Rounds.f_house a none, f_search := va_up S.O_Rounds.f_search a none, f_trail := va_up S.O_Rounds.f_trail a none, f_doneEver := va_up S.O_Rounds.f_doneEver a 0, f_changesEver := va_up S.O_Rounds.f_changesEver a 0, f_ending := va_up S.O_Rounds.f_ending a 0, f_ringLength := va_up S.O_Rounds.f_ringLength a 0 } }) := by
  rw [List.append_assoc, va_pl_push ha]
  exact congrArg (fun l => X ++ l) (va_pl_congr (wNw_O_Rounds cyI cyJ cyZ cyO28f5b cyOff204 S a))
theorem wAt_O_Search (cyI : ClassId) (cyJ : ClassId) (cyZ : ClassId) (cyO28f5b : ClassId) (cyOff204 : ClassId) (S : wPS) {a : Nat} (h : S.K a = 3) : wPF cyI cyJ cyZ cyO28f5b cyOff204 S a = .inr (3, [va_rf (S.O_Search.f_house a), va_rf (S.O_Search.f_choices a), va_rf (S.O_Search.f_choiceVoices a), va_rf (S.O_Search.f_choiceGains a), va_rf (S.O_Search.f_gainAhead a), va_rf (S.O_Search.f_tried a), va_rf (S.O_Search.f_found a), .int (S.O_Search.f_foundGain a), .int (S.O_Search.f_foundCost a), .int (S.O_Search.f_budget a)]) := by simp [wPF, h]
theorem wGt_O_Search (cyI : ClassId) (cyJ : ClassId) (cyZ : ClassId) (cyO28f5b : ClassId) (cyOff204 : ClassId) (X : va_W) (S : wPS) {a : Nat} (hL : a ∈ S.L) (h : S.K a = 3) : ∃ k : Nat, (X ++ va_pl S.L (wPF cyI cyJ cyZ cyO28f5b cyOff204 S))[k]? = some (a, wPF cyI cyJ cyZ cyO28f5b cyOff204 S a) ∧ (X ++ va_pl S.L (wPF cyI cyJ cyZ cyO28f5b cyOff204 S))[k]? = some (a, .inr (3, [va_rf (S.O_Search.f_house a), va_rf (S.O_Search.f_choices a), va_rf (S.O_Search.f_choiceVoices a), va_rf (S.O_Search.f_choiceGains a), va_rf (S.O_Search.f_gainAhead a), va_rf (S.O_Search.f_tried a), va_rf (S.O_Search.f_found a), .int (S.O_Search.f_foundGain a), .int (S.O_Search.f_foundCost a), .int (S.O_Search.f_budget a)])) := by
  obtain ⟨k, hk⟩ := va_pl_get (X := X) (f := wPF cyI cyJ cyZ cyO28f5b cyOff204 S) hL
  exact ⟨k, hk, hk.trans (congrArg (fun e => some (a, e)) (wAt_O_Search cyI cyJ cyZ cyO28f5b cyOff204 S h))⟩
theorem wSt_O_Search_f_house (cyI : ClassId) (cyJ : ClassId) (cyZ : ClassId) (cyO28f5b : ClassId) (cyOff204 : ClassId) (S : wPS) {a : Nat} (h : S.K a = 3) (v : Option Nat) (b : Nat) : va_up (wPF cyI cyJ cyZ cyO28f5b cyOff204 S) a (.inr (3, [va_rf v, va_rf (S.O_Search.f_choices a), va_rf (S.O_Search.f_choiceVoices a), va_rf (S.O_Search.f_choiceGains a), va_rf (S.O_Search.f_gainAhead a), va_rf (S.O_Search.f_tried a), va_rf (S.O_Search.f_found a), .int (S.O_Search.f_foundGain a), .int (S.O_Search.f_foundCost a), .int (S.O_Search.f_budget a)])) b = wPF cyI cyJ cyZ cyO28f5b cyOff204 { S with O_Search := { S.O_Search with f_house := va_up S.O_Search.f_house a v } } b := by by_cases hb : b = a <;> first | (simp only [wPF, va_up_ne _ _ hb]; done) | (simp only [wPF, va_up, if_neg hb]; done) | simp [wPF, va_re, va_up, va_rf, hb, h]
theorem wPu_O_Search_f_house (cyI : ClassId) (cyJ : ClassId) (cyZ : ClassId) (cyO28f5b : ClassId) (cyOff204 : ClassId) (X : va_W) (S : wPS) {A : Nat → Prop} {a k : Nat} (hD : va_D A (X ++ va_pl S.L (wPF cyI cyJ cyZ cyO28f5b cyOff204 S))) (hL : a ∈ S.L) (h : S.K a = 3) (hk : (X ++ va_pl S.L (wPF cyI cyJ cyZ cyO28f5b cyOff204 S))[k]? = some (a, wPF cyI cyJ cyZ cyO28f5b cyOff204 S a)) (v : Option Nat) : (X ++ va_pl S.L (wPF cyI cyJ cyZ cyO28f5b cyOff204 S)).set k (a, .inr (3, [va_rf v, va_rf (S.O_Search.f_choices a), va_rf (S.O_Search.f_choiceVoices a), va_rf (S.O_Search.f_choiceGains a), va_rf (S.O_Search.f_gainAhead a), va_rf (S.O_Search.f_tried a), va_rf (S.O_Search.f_found a), .int (S.O_Search.f_foundGain a), .int (S.O_Search.f_foundCost a), .int (S.O_Search.f_budget a)])) = X ++ va_pl S.L (wPF cyI cyJ cyZ cyO28f5b cyOff204 { S with O_Search := { S.O_Search with f_house := va_up S.O_Search.f_house a v } }) := by
  rw [va_pl_set hD hL hk]
  exact congrArg (fun l => X ++ l) (va_pl_congr (wSt_O_Search_f_house cyI cyJ cyZ cyO28f5b cyOff204 S h v))
theorem wSt_O_Search_f_choices (cyI : ClassId) (cyJ : ClassId) (cyZ : ClassId) (cyO28f5b : ClassId) (cyOff204 : ClassId) (S : wPS) {a : Nat} (h : S.K a = 3) (v : Option Nat) (b : Nat) : va_up (wPF cyI cyJ cyZ cyO28f5b cyOff204 S) a (.inr (3, [va_rf (S.O_Search.f_house a), va_rf v, va_rf (S.O_Search.f_choiceVoices a), va_rf (S.O_Search.f_choiceGains a), va_rf (S.O_Search.f_gainAhead a), va_rf (S.O_Search.f_tried a), va_rf (S.O_Search.f_found a), .int (S.O_Search.f_foundGain a), .int (S.O_Search.f_foundCost a), .int (S.O_Search.f_budget a)])) b = wPF cyI cyJ cyZ cyO28f5b cyOff204 { S with O_Search := { S.O_Search with f_choices := va_up S.O_Search.f_choices a v } } b := by by_cases hb : b = a <;> first | (simp only [wPF, va_up_ne _ _ hb]; done) | (simp only [wPF, va_up, if_neg hb]; done) | simp [wPF, va_re, va_up, va_rf, hb, h]
theorem wPu_O_Search_f_choices (cyI : ClassId) (cyJ : ClassId) (cyZ : ClassId) (cyO28f5b : ClassId) (cyOff204 : ClassId) (X : va_W) (S : wPS) {A : Nat → Prop} {a k : Nat} (hD : va_D A (X ++ va_pl S.L (wPF cyI cyJ cyZ cyO28f5b cyOff204 S))) (hL : a ∈ S.L) (h : S.K a = 3) (hk : (X ++ va_pl S.L (wPF cyI cyJ cyZ cyO28f5b cyOff204 S))[k]? = some (a, wPF cyI cyJ cyZ cyO28f5b cyOff204 S a)) (v : Option Nat) : (X ++ va_pl S.L (wPF cyI cyJ cyZ cyO28f5b cyOff204 S)).set k (a, .inr (3, [va_rf (S.O_Search.f_house a), va_rf v, va_rf (S.O_Search.f_choiceVoices a), va_rf (S.O_Search.f_choiceGains a), va_rf (S.O_Search.f_gainAhead a), va_rf (S.O_Search.f_tried a), va_rf (S.O_Search.f_found a), .int (S.O_Search.f_foundGain a), .int (S.O_Search.f_foundCost a), .int (S.O_Search.f_budget a)])) = X ++ va_pl S.L (wPF cyI cyJ cyZ cyO28f5b cyOff204 { S with O_Search := { S.O_Search with f_choices := va_up S.O_Search.f_choices a v } }) := by
  rw [va_pl_set hD hL hk]
  exact congrArg (fun l => X ++ l) (va_pl_congr (wSt_O_Search_f_choices cyI cyJ cyZ cyO28f5b cyOff204 S h v))
theorem wSt_O_Search_f_choiceVoices (cyI : ClassId) (cyJ : ClassId) (cyZ : ClassId) (cyO28f5b : ClassId) (cyOff204 : ClassId) (S : wPS) {a : Nat} (h : S.K a = 3) (v : Option Nat) (b : Nat) : va_up (wPF cyI cyJ cyZ cyO28f5b cyOff204 S) a (.inr (3, [va_rf (S.O_Search.f_house a), va_rf (S.O_Search.f_choices a), va_rf v, va_rf (S.O_Search.f_choiceGains a), va_rf (S.O_Search.f_gainAhead a), va_rf (S.O_Search.f_tried a), va_rf (S.O_Search.f_found a), .int (S.O_Search.f_foundGain a), .int (S.O_Search.f_foundCost a), .int (S.O_Search.f_budget a)])) b = wPF cyI cyJ cyZ cyO28f5b cyOff204 { S with O_Search := { S.O_Search with f_choiceVoices := va_up S.O_Search.f_choiceVoices a v } } b := by by_cases hb : b = a <;> first | (simp only [wPF, va_up_ne _ _ hb]; done) | (simp only [wPF, va_up, if_neg hb]; done) | simp [wPF, va_re, va_up, va_rf, hb, h]
theorem wPu_O_Search_f_choiceVoices (cyI : ClassId) (cyJ : ClassId) (cyZ : ClassId) (cyO28f5b : ClassId) (cyOff204 : ClassId) (X : va_W) (S : wPS) {A : Nat → Prop} {a k : Nat} (hD : va_D A (X ++ va_pl S.L (wPF cyI cyJ cyZ cyO28f5b cyOff204 S))) (hL : a ∈ S.L) (h : S.K a = 3) (hk : (X ++ va_pl S.L (wPF cyI cyJ cyZ cyO28f5b cyOff204 S))[k]? = some (a, wPF cyI cyJ cyZ cyO28f5b cyOff204 S a)) (v : Option Nat) : (X ++ va_pl S.L (wPF cyI cyJ cyZ cyO28f5b cyOff204 S)).set k (a, .inr (3, [va_rf (S.O_Search.f_house a), va_rf (S.O_Search.f_choices a), va_rf v, va_rf (S.O_Search.f_choiceGains a), va_rf (S.O_Search.f_gainAhead a), va_rf (S.O_Search.f_tried a), va_rf (S.O_Search.f_found a), .int (S.O_Search.f_foundGain a), .int (S.O_Search.f_foundCost a), .int (S.O_Search.f_budget a)])) = X ++ va_pl S.L (wPF cyI cyJ cyZ cyO28f5b cyOff204 { S with O_Search := { S.O_Search with f_choiceVoices := va_up S.O_Search.f_choiceVoices a v } }) := by
  rw [va_pl_set hD hL hk]
  exact congrArg (fun l => X ++ l) (va_pl_congr (wSt_O_Search_f_choiceVoices cyI cyJ cyZ cyO28f5b cyOff204 S h v))
theorem wSt_O_Search_f_choiceGains (cyI : ClassId) (cyJ : ClassId) (cyZ : ClassId) (cyO28f5b : ClassId) (cyOff204 : ClassId) (S : wPS) {a : Nat} (h : S.K a = 3) (v : Option Nat) (b : Nat) : va_up (wPF cyI cyJ cyZ cyO28f5b cyOff204 S) a (.inr (3, [va_rf (S.O_Search.f_house a), va_rf (S.O_Search.f_choices a), va_rf (S.O_Search.f_choiceVoices a), va_rf v, va_rf (S.O_Search.f_gainAhead a), va_rf (S.O_Search.f_tried a), va_rf (S.O_Search.f_found a), .int (S.O_Search.f_foundGain a), .int (S.O_Search.f_foundCost a), .int (S.O_Search.f_budget a)])) b = wPF cyI cyJ cyZ cyO28f5b cyOff204 { S with O_Search := { S.O_Search with f_choiceGains := va_up S.O_Search.f_choiceGains a v } } b := by by_cases hb : b = a <;> first | (simp only [wPF, va_up_ne _ _ hb]; done) | (simp only [wPF, va_up, if_neg hb]; done) | simp [wPF, va_re, va_up, va_rf, hb, h]
theorem wPu_O_Search_f_choiceGains (cyI : ClassId) (cyJ : ClassId) (cyZ : ClassId) (cyO28f5b : ClassId) (cyOff204 : ClassId) (X : va_W) (S : wPS) {A : Nat → Prop} {a k : Nat} (hD : va_D A (X ++ va_pl S.L (wPF cyI cyJ cyZ cyO28f5b cyOff204 S))) (hL : a ∈ S.L) (h : S.K a = 3) (hk : (X ++ va_pl S.L (wPF cyI cyJ cyZ cyO28f5b cyOff204 S))[k]? = some (a, wPF cyI cyJ cyZ cyO28f5b cyOff204 S a)) (v : Option Nat) : (X ++ va_pl S.L (wPF cyI cyJ cyZ cyO28f5b cyOff204 S)).set k (a, .inr (3, [va_rf (S.O_Search.f_house a), va_rf (S.O_Search.f_choices a), va_rf (S.O_Search.f_choiceVoices a), va_rf v, va_rf (S.O_Search.f_gainAhead a), va_rf (S.O_Search.f_tried a), va_rf (S.O_Search.f_found a), .int (S.O_Search.f_foundGain a), .int (S.O_Search.f_foundCost a), .int (S.O_Search.f_budget a)])) = X ++ va_pl S.L (wPF cyI cyJ cyZ cyO28f5b cyOff204 { S with O_Search := { S.O_Search with f_choiceGains := va_up S.O_Search.f_choiceGains a v } }) := by
  rw [va_pl_set hD hL hk]
  exact congrArg (fun l => X ++ l) (va_pl_congr (wSt_O_Search_f_choiceGains cyI cyJ cyZ cyO28f5b cyOff204 S h v))
theorem wSt_O_Search_f_gainAhead (cyI : ClassId) (cyJ : ClassId) (cyZ : ClassId) (cyO28f5b : ClassId) (cyOff204 : ClassId) (S : wPS) {a : Nat} (h : S.K a = 3) (v : Option Nat) (b : Nat) : va_up (wPF cyI cyJ cyZ cyO28f5b cyOff204 S) a (.inr (3, [va_rf (S.O_Search.f_house a), va_rf (S.O_Search.f_choices a), va_rf (S.O_Search.f_choiceVoices a), va_rf (S.O_Search.f_choiceGains a), va_rf v, va_rf (S.O_Search.f_tried a), va_rf (S.O_Search.f_found a), .int (S.O_Search.f_foundGain a), .int (S.O_Search.f_foundCost a), .int (S.O_Search.f_budget a)])) b = wPF cyI cyJ cyZ cyO28f5b cyOff204 { S with O_Search := { S.O_Search with f_gainAhead := va_up S.O_Search.f_gainAhead a v } } b := by by_cases hb : b = a <;> first | (simp only [wPF, va_up_ne _ _ hb]; done) | (simp only [wPF, va_up, if_neg hb]; done) | simp [wPF, va_re, va_up, va_rf, hb, h]
theorem wPu_O_Search_f_gainAhead (cyI : ClassId) (cyJ : ClassId) (cyZ : ClassId) (cyO28f5b : ClassId) (cyOff204 : ClassId) (X : va_W) (S : wPS) {A : Nat → Prop} {a k : Nat} (hD : va_D A (X ++ va_pl S.L (wPF cyI cyJ cyZ cyO28f5b cyOff204 S))) (hL : a ∈ S.L) (h : S.K a = 3) (hk : (X ++ va_pl S.L (wPF cyI cyJ cyZ cyO28f5b cyOff204 S))[k]? = some (a, wPF cyI cyJ cyZ cyO28f5b cyOff204 S a)) (v : Option Nat) : (X ++ va_pl S.L (wPF cyI cyJ cyZ cyO28f5b cyOff204 S)).set k (a, .inr (3, [va_rf (S.O_Search.f_house a), va_rf (S.O_Search.f_choices a), va_rf (S.O_Search.f_choiceVoices a), va_rf (S.O_Search.f_choiceGains a), va_rf v, va_rf (S.O_Search.f_tried a), va_rf (S.O_Search.f_found a), .int (S.O_Search.f_foundGain a), .int (S.O_Search.f_foundCost a), .int (S.O_Search.f_budget a)])) = X ++ va_pl S.L (wPF cyI cyJ cyZ cyO28f5b cyOff204 { S with O_Search := { S.O_Search with f_gainAhead := va_up S.O_Search.f_gainAhead a v } }) := by
  rw [va_pl_set hD hL hk]
  exact congrArg (fun l => X ++ l) (va_pl_congr (wSt_O_Search_f_gainAhead cyI cyJ cyZ cyO28f5b cyOff204 S h v))
theorem wSt_O_Search_f_tried (cyI : ClassId) (cyJ : ClassId) (cyZ : ClassId) (cyO28f5b : ClassId) (cyOff204 : ClassId) (S : wPS) {a : Nat} (h : S.K a = 3) (v : Option Nat) (b : Nat) : va_up (wPF cyI cyJ cyZ cyO28f5b cyOff204 S) a (.inr (3, [va_rf (S.O_Search.f_house a), va_rf (S.O_Search.f_choices a), va_rf (S.O_Search.f_choiceVoices a), va_rf (S.O_Search.f_choiceGains a), va_rf (S.O_Search.f_gainAhead a), va_rf v, va_rf (S.O_Search.f_found a), .int (S.O_Search.f_foundGain a), .int (S.O_Search.f_foundCost a), .int (S.O_Search.f_budget a)])) b = wPF cyI cyJ cyZ cyO28f5b cyOff204 { S with O_Search := { S.O_Search with f_tried := va_up S.O_Search.f_tried a v } } b := by by_cases hb : b = a <;> first | (simp only [wPF, va_up_ne _ _ hb]; done) | (simp only [wPF, va_up, if_neg hb]; done) | simp [wPF, va_re, va_up, va_rf, hb, h]
theorem wPu_O_Search_f_tried (cyI : ClassId) (cyJ : ClassId) (cyZ : ClassId) (cyO28f5b : ClassId) (cyOff204 : ClassId) (X : va_W) (S : wPS) {A : Nat → Prop} {a k : Nat} (hD : va_D A (X ++ va_pl S.L (wPF cyI cyJ cyZ cyO28f5b cyOff204 S))) (hL : a ∈ S.L) (h : S.K a = 3) (hk : (X ++ va_pl S.L (wPF cyI cyJ cyZ cyO28f5b cyOff204 S))[k]? = some (a, wPF cyI cyJ cyZ cyO28f5b cyOff204 S a)) (v : Option Nat) : (X ++ va_pl S.L (wPF cyI cyJ cyZ cyO28f5b cyOff204 S)).set k (a, .inr (3, [va_rf (S.O_Search.f_house a), va_rf (S.O_Search.f_choices a), va_rf (S.O_Search.f_choiceVoices a), va_rf (S.O_Search.f_choiceGains a), va_rf (S.O_Search.f_gainAhead a), va_rf v, va_rf (S.O_Search.f_found a), .int (S.O_Search.f_foundGain a), .int (S.O_Search.f_foundCost a), .int (S.O_Search.f_budget a)])) = X ++ va_pl S.L (wPF cyI cyJ cyZ cyO28f5b cyOff204 { S with O_Search := { S.O_Search with f_tried := va_up S.O_Search.f_tried a v } }) := by
  rw [va_pl_set hD hL hk]
  exact congrArg (fun l => X ++ l) (va_pl_congr (wSt_O_Search_f_tried cyI cyJ cyZ cyO28f5b cyOff204 S h v))
theorem wSt_O_Search_f_found (cyI : ClassId) (cyJ : ClassId) (cyZ : ClassId) (cyO28f5b : ClassId) (cyOff204 : ClassId) (S : wPS) {a : Nat} (h : S.K a = 3) (v : Option Nat) (b : Nat) : va_up (wPF cyI cyJ cyZ cyO28f5b cyOff204 S) a (.inr (3, [va_rf (S.O_Search.f_house a), va_rf (S.O_Search.f_choices a), va_rf (S.O_Search.f_choiceVoices a), va_rf (S.O_Search.f_choiceGains a), va_rf (S.O_Search.f_gainAhead a), va_rf (S.O_Search.f_tried a), va_rf v, .int (S.O_Search.f_foundGain a), .int (S.O_Search.f_foundCost a), .int (S.O_Search.f_budget a)])) b = wPF cyI cyJ cyZ cyO28f5b cyOff204 { S with O_Search := { S.O_Search with f_found := va_up S.O_Search.f_found a v } } b := by by_cases hb : b = a <;> first | (simp only [wPF, va_up_ne _ _ hb]; done) | (simp only [wPF, va_up, if_neg hb]; done) | simp [wPF, va_re, va_up, va_rf, hb, h]
theorem wPu_O_Search_f_found (cyI : ClassId) (cyJ : ClassId) (cyZ : ClassId) (cyO28f5b : ClassId) (cyOff204 : ClassId) (X : va_W) (S : wPS) {A : Nat → Prop} {a k : Nat} (hD : va_D A (X ++ va_pl S.L (wPF cyI cyJ cyZ cyO28f5b cyOff204 S))) (hL : a ∈ S.L) (h : S.K a = 3) (hk : (X ++ va_pl S.L (wPF cyI cyJ cyZ cyO28f5b cyOff204 S))[k]? = some (a, wPF cyI cyJ cyZ cyO28f5b cyOff204 S a)) (v : Option Nat) : (X ++ va_pl S.L (wPF cyI cyJ cyZ cyO28f5b cyOff204 S)).set k (a, .inr (3, [va_rf (S.O_Search.f_house a), va_rf (S.O_Search.f_choices a), va_rf (S.O_Search.f_choiceVoices a), va_rf (S.O_Search.f_choiceGains a), va_rf (S.O_Search.f_gainAhead a), va_rf (S.O_Search.f_tried a), va_rf v, .int (S.O_Search.f_foundGain a), .int (S.O_Search.f_foundCost a), .int (S.O_Search.f_budget a)])) = X ++ va_pl S.L (wPF cyI cyJ cyZ cyO28f5b cyOff204 { S with O_Search := { S.O_Search with f_found := va_up S.O_Search.f_found a v } }) := by
  rw [va_pl_set hD hL hk]
  exact congrArg (fun l => X ++ l) (va_pl_congr (wSt_O_Search_f_found cyI cyJ cyZ cyO28f5b cyOff204 S h v))
theorem wSt_O_Search_f_foundGain (cyI : ClassId) (cyJ : ClassId) (cyZ : ClassId) (cyO28f5b : ClassId) (cyOff204 : ClassId) (S : wPS) {a : Nat} (h : S.K a = 3) (v : Int32) (b : Nat) : va_up (wPF cyI cyJ cyZ cyO28f5b cyOff204 S) a (.inr (3, [va_rf (S.O_Search.f_house a), va_rf (S.O_Search.f_choices a), va_rf (S.O_Search.f_choiceVoices a), va_rf (S.O_Search.f_choiceGains a), va_rf (S.O_Search.f_gainAhead a), va_rf (S.O_Search.f_tried a), va_rf (S.O_Search.f_found a), .int v, .int (S.O_Search.f_foundCost a), .int (S.O_Search.f_budget a)])) b = wPF cyI cyJ cyZ cyO28f5b cyOff204 { S with O_Search := { S.O_Search with f_foundGain := va_up S.O_Search.f_foundGain a v } } b := by by_cases hb : b = a <;> first | (simp only [wPF, va_up_ne _ _ hb]; done) | (simp only [wPF, va_up, if_neg hb]; done) | simp [wPF, va_re, va_up, va_rf, hb, h]
theorem wPu_O_Search_f_foundGain (cyI : ClassId) (cyJ : ClassId) (cyZ : ClassId) (cyO28f5b : ClassId) (cyOff204 : ClassId) (X : va_W) (S : wPS) {A : Nat → Prop} {a k : Nat} (hD : va_D A (X ++ va_pl S.L (wPF cyI cyJ cyZ cyO28f5b cyOff204 S))) (hL : a ∈ S.L) (h : S.K a = 3) (hk : (X ++ va_pl S.L (wPF cyI cyJ cyZ cyO28f5b cyOff204 S))[k]? = some (a, wPF cyI cyJ cyZ cyO28f5b cyOff204 S a)) (v : Int32) : (X ++ va_pl S.L (wPF cyI cyJ cyZ cyO28f5b cyOff204 S)).set k (a, .inr (3, [va_rf (S.O_Search.f_house a), va_rf (S.O_Search.f_choices a), va_rf (S.O_Search.f_choiceVoices a), va_rf (S.O_Search.f_choiceGains a), va_rf (S.O_Search.f_gainAhead a), va_rf (S.O_Search.f_tried a), va_rf (S.O_Search.f_found a), .int v, .int (S.O_Search.f_foundCost a), .int (S.O_Search.f_budget a)])) = X ++ va_pl S.L (wPF cyI cyJ cyZ cyO28f5b cyOff204 { S with O_Search := { S.O_Search with f_foundGain := va_up S.O_Search.f_foundGain a v } }) := by
  rw [va_pl_set hD hL hk]
  exact congrArg (fun l => X ++ l) (va_pl_congr (wSt_O_Search_f_foundGain cyI cyJ cyZ cyO28f5b cyOff204 S h v))
theorem wSt_O_Search_f_foundCost (cyI : ClassId) (cyJ : ClassId) (cyZ : ClassId) (cyO28f5b : ClassId) (cyOff204 : ClassId) (S : wPS) {a : Nat} (h : S.K a = 3) (v : Int32) (b : Nat) : va_up (wPF cyI cyJ cyZ cyO28f5b cyOff204 S) a (.inr (3, [va_rf (S.O_Search.f_house a), va_rf (S.O_Search.f_choices a), va_rf (S.O_Search.f_choiceVoices a), va_rf (S.O_Search.f_choiceGains a), va_rf (S.O_Search.f_gainAhead a), va_rf (S.O_Search.f_tried a), va_rf (S.O_Search.f_found a), .int (S.O_Search.f_foundGain a), .int v, .int (S.O_Search.f_budget a)])) b = wPF cyI cyJ cyZ cyO28f5b cyOff204 { S with O_Search := { S.O_Search with f_foundCost := va_up S.O_Search.f_foundCost a v } } b := by by_cases hb : b = a <;> first | (simp only [wPF, va_up_ne _ _ hb]; done) | (simp only [wPF, va_up, if_neg hb]; done) | simp [wPF, va_re, va_up, va_rf, hb, h]
theorem wPu_O_Search_f_foundCost (cyI : ClassId) (cyJ : ClassId) (cyZ : ClassId) (cyO28f5b : ClassId) (cyOff204 : ClassId) (X : va_W) (S : wPS) {A : Nat → Prop} {a k : Nat} (hD : va_D A (X ++ va_pl S.L (wPF cyI cyJ cyZ cyO28f5b cyOff204 S))) (hL : a ∈ S.L) (h : S.K a = 3) (hk : (X ++ va_pl S.L (wPF cyI cyJ cyZ cyO28f5b cyOff204 S))[k]? = some (a, wPF cyI cyJ cyZ cyO28f5b cyOff204 S a)) (v : Int32) : (X ++ va_pl S.L (wPF cyI cyJ cyZ cyO28f5b cyOff204 S)).set k (a, .inr (3, [va_rf (S.O_Search.f_house a), va_rf (S.O_Search.f_choices a), va_rf (S.O_Search.f_choiceVoices a), va_rf (S.O_Search.f_choiceGains a), va_rf (S.O_Search.f_gainAhead a), va_rf (S.O_Search.f_tried a), va_rf (S.O_Search.f_found a), .int (S.O_Search.f_foundGain a), .int v, .int (S.O_Search.f_budget a)])) = X ++ va_pl S.L (wPF cyI cyJ cyZ cyO28f5b cyOff204 { S with O_Search := { S.O_Search with f_foundCost := va_up S.O_Search.f_foundCost a v } }) := by
  rw [va_pl_set hD hL hk]
  exact congrArg (fun l => X ++ l) (va_pl_congr (wSt_O_Search_f_foundCost cyI cyJ cyZ cyO28f5b cyOff204 S h v))
theorem wSt_O_Search_f_budget (cyI : ClassId) (cyJ : ClassId) (cyZ : ClassId) (cyO28f5b : ClassId) (cyOff204 : ClassId) (S : wPS) {a : Nat} (h : S.K a = 3) (v : Int32) (b : Nat) : va_up (wPF cyI cyJ cyZ cyO28f5b cyOff204 S) a (.inr (3, [va_rf (S.O_Search.f_house a), va_rf (S.O_Search.f_choices a), va_rf (S.O_Search.f_choiceVoices a), va_rf (S.O_Search.f_choiceGains a), va_rf (S.O_Search.f_gainAhead a), va_rf (S.O_Search.f_tried a), va_rf (S.O_Search.f_found a), .int (S.O_Search.f_foundGain a), .int (S.O_Search.f_foundCost a), .int v])) b = wPF cyI cyJ cyZ cyO28f5b cyOff204 { S with O_Search := { S.O_Search with f_budget := va_up S.O_Search.f_budget a v } } b := by by_cases hb : b = a <;> first | (simp only [wPF, va_up_ne _ _ hb]; done) | (simp only [wPF, va_up, if_neg hb]; done) | simp [wPF, va_re, va_up, va_rf, hb, h]
theorem wPu_O_Search_f_budget (cyI : ClassId) (cyJ : ClassId) (cyZ : ClassId) (cyO28f5b : ClassId) (cyOff204 : ClassId) (X : va_W) (S : wPS) {A : Nat → Prop} {a k : Nat} (hD : va_D A (X ++ va_pl S.L (wPF cyI cyJ cyZ cyO28f5b cyOff204 S))) (hL : a ∈ S.L) (h : S.K a = 3) (hk : (X ++ va_pl S.L (wPF cyI cyJ cyZ cyO28f5b cyOff204 S))[k]? = some (a, wPF cyI cyJ cyZ cyO28f5b cyOff204 S a)) (v : Int32) : (X ++ va_pl S.L (wPF cyI cyJ cyZ cyO28f5b cyOff204 S)).set k (a, .inr (3, [va_rf (S.O_Search.f_house a), va_rf (S.O_Search.f_choices a), va_rf (S.O_Search.f_choiceVoices a), va_rf (S.O_Search.f_choiceGains a), va_rf (S.O_Search.f_gainAhead a), va_rf (S.O_Search.f_tried a), va_rf (S.O_Search.f_found a), .int (S.O_Search.f_foundGain a), .int (S.O_Search.f_foundCost a), .int v])) = X ++ va_pl S.L (wPF cyI cyJ cyZ cyO28f5b cyOff204 { S with O_Search := { S.O_Search with f_budget := va_up S.O_Search.f_budget a v } }) := by
  rw [va_pl_set hD hL hk]
  exact congrArg (fun l => X ++ l) (va_pl_congr (wSt_O_Search_f_budget cyI cyJ cyZ cyO28f5b cyOff204 S h v))
theorem wNw_O_Search (cyI : ClassId) (cyJ : ClassId) (cyZ : ClassId) (cyO28f5b : ClassId) (cyOff204 : ClassId) (S : wPS) (a b : Nat) : va_up (wPF cyI cyJ cyZ cyO28f5b cyOff204 S) a (.inr (3, [.null, .null, .null, .null, .null, .null, .null, .int 0, .int 0, .int 0])) b = wPF cyI cyJ cyZ cyO28f5b cyOff204 { S with L := S.L ++ [a], K := va_up S.K a 3, O_Search := { f_house := va_up S.O_Search.f_house a none, f_choices := va_up S.O_Search.f_choices a none, f_choiceVoices := va_up S.O_Search.f_choiceVoices a none, f_choiceGains := va_up S.O_Search.f_choiceGains a none, f_gainAhead := va_up S.O_Search.f_gainAhead a none, f_tried := va_up S.O_Search.f_tried a none, f_found := va_up S.O_Search.f_found a none, f_foundGain := va_up S.O_Search.f_foundGain a 0, f_foundCost := va_up S.O_Search.f_foundCost a 0, f_budget := va_up S.O_Search.f_budget a 0 } } b := by by_cases hb : b = a <;> first | (simp only [wPF, va_up_ne _ _ hb]; done) | (simp only [wPF, va_up, if_neg hb]; done) | simp [wPF, va_re, va_up, va_rf, hb]
theorem wPn_O_Search (cyI : ClassId) (cyJ : ClassId) (cyZ : ClassId) (cyO28f5b : ClassId) (cyOff204 : ClassId) (X : va_W) (S : wPS) {a : Nat} (ha : a ∉ S.L) : (X ++ va_pl S.L (wPF cyI cyJ cyZ cyO28f5b cyOff204 S)) ++ [(a, .inr (3, [.null, .null, .null, .null, .null, .null, .null, .int 0, .int 0, .int 0]))] = X ++ va_pl (S.L ++ [a]) (wPF cyI cyJ cyZ cyO28f5b cyOff204 { S with L := S.L ++ [a], K := va_up S.K a 3, O_Search := { f_house := va_up S.O_Search.f_house a none, f_choices := va_up S.O_Search.f_choices a none, f_choiceVoices := va_up S.O_Search.f_choiceVoices a none, f_choiceGains := va_up S.O_Search.f_choiceGains a none, f_gainAhead := va_up S.O_Search.f_gainAhead a none, f_tried := va_up S.O_Search.f_tried a none, f_found := va_up S.O_Search.f_found a none, f_foundGain := va_up S.O_Search.f_foundGain a 0, f_foundCost := va_up S.O_Search.f_foundCost a 0, f_budget := va_up S.O_Search.f_budget a 0 } }) := by
  rw [List.append_assoc, va_pl_push ha]
  exact congrArg (fun l => X ++ l) (va_pl_congr (wNw_O_Search cyI cyJ cyZ cyO28f5b cyOff204 S a))
theorem wAt_O_DearVotes (cyI : ClassId) (cyJ : ClassId) (cyZ : ClassId) (cyO28f5b : ClassId) (cyOff204 : ClassId) (S : wPS) {a : Nat} (h : S.K a = 4) : wPF cyI cyJ cyZ cyO28f5b cyOff204 S a = .inr (4, [va_rf (S.O_DearVotes.f_house a), va_rf (S.O_DearVotes.f_search a), va_rf (S.O_DearVotes.f_rounds a), va_rf (S.O_DearVotes.f_fund a)]) := by simp [wPF, h]
theorem wGt_O_DearVotes (cyI : ClassId) (cyJ : ClassId) (cyZ : ClassId) (cyO28f5b : ClassId) (cyOff204 : ClassId) (X : va_W) (S : wPS) {a : Nat} (hL : a ∈ S.L) (h : S.K a = 4) : ∃ k : Nat, (X ++ va_pl S.L (wPF cyI cyJ cyZ cyO28f5b cyOff204 S))[k]? = some (a, wPF cyI cyJ cyZ cyO28f5b cyOff204 S a) ∧ (X ++ va_pl S.L (wPF cyI cyJ cyZ cyO28f5b cyOff204 S))[k]? = some (a, .inr (4, [va_rf (S.O_DearVotes.f_house a), va_rf (S.O_DearVotes.f_search a), va_rf (S.O_DearVotes.f_rounds a), va_rf (S.O_DearVotes.f_fund a)])) := by
  obtain ⟨k, hk⟩ := va_pl_get (X := X) (f := wPF cyI cyJ cyZ cyO28f5b cyOff204 S) hL
  exact ⟨k, hk, hk.trans (congrArg (fun e => some (a, e)) (wAt_O_DearVotes cyI cyJ cyZ cyO28f5b cyOff204 S h))⟩
theorem wSt_O_DearVotes_f_house (cyI : ClassId) (cyJ : ClassId) (cyZ : ClassId) (cyO28f5b : ClassId) (cyOff204 : ClassId) (S : wPS) {a : Nat} (h : S.K a = 4) (v : Option Nat) (b : Nat) : va_up (wPF cyI cyJ cyZ cyO28f5b cyOff204 S) a (.inr (4, [va_rf v, va_rf (S.O_DearVotes.f_search a), va_rf (S.O_DearVotes.f_rounds a), va_rf (S.O_DearVotes.f_fund a)])) b = wPF cyI cyJ cyZ cyO28f5b cyOff204 { S with O_DearVotes := { S.O_DearVotes with f_house := va_up S.O_DearVotes.f_house a v } } b := by by_cases hb : b = a <;> first | (simp only [wPF, va_up_ne _ _ hb]; done) | (simp only [wPF, va_up, if_neg hb]; done) | simp [wPF, va_re, va_up, va_rf, hb, h]
theorem wPu_O_DearVotes_f_house (cyI : ClassId) (cyJ : ClassId) (cyZ : ClassId) (cyO28f5b : ClassId) (cyOff204 : ClassId) (X : va_W) (S : wPS) {A : Nat → Prop} {a k : Nat} (hD : va_D A (X ++ va_pl S.L (wPF cyI cyJ cyZ cyO28f5b cyOff204 S))) (hL : a ∈ S.L) (h : S.K a = 4) (hk : (X ++ va_pl S.L (wPF cyI cyJ cyZ cyO28f5b cyOff204 S))[k]? = some (a, wPF cyI cyJ cyZ cyO28f5b cyOff204 S a)) (v : Option Nat) : (X ++ va_pl S.L (wPF cyI cyJ cyZ cyO28f5b cyOff204 S)).set k (a, .inr (4, [va_rf v, va_rf (S.O_DearVotes.f_search a), va_rf (S.O_DearVotes.f_rounds a), va_rf (S.O_DearVotes.f_fund a)])) = X ++ va_pl S.L (wPF cyI cyJ cyZ cyO28f5b cyOff204 { S with O_DearVotes := { S.O_DearVotes with f_house := va_up S.O_DearVotes.f_house a v } }) := by
  rw [va_pl_set hD hL hk]
  exact congrArg (fun l => X ++ l) (va_pl_congr (wSt_O_DearVotes_f_house cyI cyJ cyZ cyO28f5b cyOff204 S h v))
theorem wSt_O_DearVotes_f_search (cyI : ClassId) (cyJ : ClassId) (cyZ : ClassId) (cyO28f5b : ClassId) (cyOff204 : ClassId) (S : wPS) {a : Nat} (h : S.K a = 4) (v : Option Nat) (b : Nat) : va_up (wPF cyI cyJ cyZ cyO28f5b cyOff204 S) a (.inr (4, [va_rf (S.O_DearVotes.f_house a), va_rf v, va_rf (S.O_DearVotes.f_rounds a), va_rf (S.O_DearVotes.f_fund a)])) b = wPF cyI cyJ cyZ cyO28f5b cyOff204 { S with O_DearVotes := { S.O_DearVotes with f_search := va_up S.O_DearVotes.f_search a v } } b := by by_cases hb : b = a <;> first | (simp only [wPF, va_up_ne _ _ hb]; done) | (simp only [wPF, va_up, if_neg hb]; done) | simp [wPF, va_re, va_up, va_rf, hb, h]
theorem wPu_O_DearVotes_f_search (cyI : ClassId) (cyJ : ClassId) (cyZ : ClassId) (cyO28f5b : ClassId) (cyOff204 : ClassId) (X : va_W) (S : wPS) {A : Nat → Prop} {a k : Nat} (hD : va_D A (X ++ va_pl S.L (wPF cyI cyJ cyZ cyO28f5b cyOff204 S))) (hL : a ∈ S.L) (h : S.K a = 4) (hk : (X ++ va_pl S.L (wPF cyI cyJ cyZ cyO28f5b cyOff204 S))[k]? = some (a, wPF cyI cyJ cyZ cyO28f5b cyOff204 S a)) (v : Option Nat) : (X ++ va_pl S.L (wPF cyI cyJ cyZ cyO28f5b cyOff204 S)).set k (a, .inr (4, [va_rf (S.O_DearVotes.f_house a), va_rf v, va_rf (S.O_DearVotes.f_rounds a), va_rf (S.O_DearVotes.f_fund a)])) = X ++ va_pl S.L (wPF cyI cyJ cyZ cyO28f5b cyOff204 { S with O_DearVotes := { S.O_DearVotes with f_search := va_up S.O_DearVotes.f_search a v } }) := by
  rw [va_pl_set hD hL hk]
  exact congrArg (fun l => X ++ l) (va_pl_congr (wSt_O_DearVotes_f_search cyI cyJ cyZ cyO28f5b cyOff204 S h v))
theorem wSt_O_DearVotes_f_rounds (cyI : ClassId) (cyJ : ClassId) (cyZ : ClassId) (cyO28f5b : ClassId) (cyOff204 : ClassId) (S : wPS) {a : Nat} (h : S.K a = 4) (v : Option Nat) (b : Nat) : va_up (wPF cyI cyJ cyZ cyO28f5b cyOff204 S) a (.inr (4, [va_rf (S.O_DearVotes.f_house a), va_rf (S.O_DearVotes.f_search a), va_rf v, va_rf (S.O_DearVotes.f_fund a)])) b = wPF cyI cyJ cyZ cyO28f5b cyOff204 { S with O_DearVotes := { S.O_DearVotes with f_rounds := va_up S.O_DearVotes.f_rounds a v } } b := by by_cases hb : b = a <;> first | (simp only [wPF, va_up_ne _ _ hb]; done) | (simp only [wPF, va_up, if_neg hb]; done) | simp [wPF, va_re, va_up, va_rf, hb, h]
theorem wPu_O_DearVotes_f_rounds (cyI : ClassId) (cyJ : ClassId) (cyZ : ClassId) (cyO28f5b : ClassId) (cyOff204 : ClassId) (X : va_W) (S : wPS) {A : Nat → Prop} {a k : Nat} (hD : va_D A (X ++ va_pl S.L (wPF cyI cyJ cyZ cyO28f5b cyOff204 S))) (hL : a ∈ S.L) (h : S.K a = 4) (hk : (X ++ va_pl S.L (wPF cyI cyJ cyZ cyO28f5b cyOff204 S))[k]? = some (a, wPF cyI cyJ cyZ cyO28f5b cyOff204 S a)) (v : Option Nat) : (X ++ va_pl S.L (wPF cyI cyJ cyZ cyO28f5b cyOff204 S)).set k (a, .inr (4, [va_rf (S.O_DearVotes.f_house a), va_rf (S.O_DearVotes.f_search a), va_rf v, va_rf (S.O_DearVotes.f_fund a)])) = X ++ va_pl S.L (wPF cyI cyJ cyZ cyO28f5b cyOff204 { S with O_DearVotes := { S.O_DearVotes with f_rounds := va_up S.O_DearVotes.f_rounds a v } }) := by
  rw [va_pl_set hD hL hk]
  exact congrArg (fun l => X ++ l) (va_pl_congr (wSt_O_DearVotes_f_rounds cyI cyJ cyZ cyO28f5b cyOff204 S h v))
theorem wSt_O_DearVotes_f_fund (cyI : ClassId) (cyJ : ClassId) (cyZ : ClassId) (cyO28f5b : ClassId) (cyOff204 : ClassId) (S : wPS) {a : Nat} (h : S.K a = 4) (v : Option Nat) (b : Nat) : va_up (wPF cyI cyJ cyZ cyO28f5b cyOff204 S) a (.inr (4, [va_rf (S.O_DearVotes.f_house a), va_rf (S.O_DearVotes.f_search a), va_rf (S.O_DearVotes.f_rounds a), va_rf v])) b = wPF cyI cyJ cyZ cyO28f5b cyOff204 { S with O_DearVotes := { S.O_DearVotes with f_fund := va_up S.O_DearVotes.f_fund a v } } b := by by_cases hb : b = a <;> first | (simp only [wPF, va_up_ne _ _ hb]; done) | (simp only [wPF, va_up, if_neg hb]; done) | simp [wPF, va_re, va_up, va_rf, hb, h]
theorem wPu_O_DearVotes_f_fund (cyI : ClassId) (cyJ : ClassId) (cyZ : ClassId) (cyO28f5b : ClassId) (cyOff204 : ClassId) (X : va_W) (S : wPS) {A : Nat → Prop} {a k : Nat} (hD : va_D A (X ++ va_pl S.L (wPF cyI cyJ cyZ cyO28f5b cyOff204 S))) (hL : a ∈ S.L) (h : S.K a = 4) (hk : (X ++ va_pl S.L (wPF cyI cyJ cyZ cyO28f5b cyOff204 S))[k]? = some (a, wPF cyI cyJ cyZ cyO28f5b cyOff204 S a)) (v : Option Nat) : (X ++ va_pl S.L (wPF cyI cyJ cyZ cyO28f5b cyOff204 S)).set k (a, .inr (4, [va_rf (S.O_DearVotes.f_house a), va_rf (S.O_DearVotes.f_search a), va_rf (S.O_DearVotes.f_rounds a), va_rf v])) = X ++ va_pl S.L (wPF cyI cyJ cyZ cyO28f5b cyOff204 { S with O_DearVotes := { S.O_DearVotes with f_fund := va_up S.O_DearVotes.f_fund a v } }) := by
  rw [va_pl_set hD hL hk]
  exact congrArg (fun l => X ++ l) (va_pl_congr (wSt_O_DearVotes_f_fund cyI cyJ cyZ cyO28f5b cyOff204 S h v))
theorem wNw_O_DearVotes (cyI : ClassId) (cyJ : ClassId) (cyZ : ClassId) (cyO28f5b : ClassId) (cyOff204 : ClassId) (S : wPS) (a b : Nat) : va_up (wPF cyI cyJ cyZ cyO28f5b cyOff204 S) a (.inr (4, [.null, .null, .null, .null])) b = wPF cyI cyJ cyZ cyO28f5b cyOff204 { S with L := S.L ++ [a], K := va_up S.K a 4, O_DearVotes := { f_house := va_up S.O_DearVotes.f_house a none, f_search := va_up S.O_DearVotes.f_search a none, f_rounds := va_up S.O_DearVotes.f_rounds a none, f_fund := va_up S.O_DearVotes.f_fund a none } } b := by by_cases hb : b = a <;> first | (simp only [wPF, va_up_ne _ _ hb]; done) | (simp only [wPF, va_up, if_neg hb]; done) | simp [wPF, va_re, va_up, va_rf, hb]
theorem wPn_O_DearVotes (cyI : ClassId) (cyJ : ClassId) (cyZ : ClassId) (cyO28f5b : ClassId) (cyOff204 : ClassId) (X : va_W) (S : wPS) {a : Nat} (ha : a ∉ S.L) : (X ++ va_pl S.L (wPF cyI cyJ cyZ cyO28f5b cyOff204 S)) ++ [(a, .inr (4, [.null, .null, .null, .null]))] = X ++ va_pl (S.L ++ [a]) (wPF cyI cyJ cyZ cyO28f5b cyOff204 { S with L := S.L ++ [a], K := va_up S.K a 4, O_DearVotes := { f_house := va_up S.O_DearVotes.f_house a none, f_search := va_up S.O_DearVotes.f_search a none, f_rounds := va_up S.O_DearVotes.f_rounds a none, f_fund := va_up S.O_DearVotes.f_fund a none } }) := by
  rw [List.append_assoc, va_pl_push ha]
  exact congrArg (fun l => X ++ l) (va_pl_congr (wNw_O_DearVotes cyI cyJ cyZ cyO28f5b cyOff204 S a))
theorem wAt_O_DearVotesModel (cyI : ClassId) (cyJ : ClassId) (cyZ : ClassId) (cyO28f5b : ClassId) (cyOff204 : ClassId) (S : wPS) {a : Nat} (h : S.K a = 5) : wPF cyI cyJ cyZ cyO28f5b cyOff204 S a = .inr (5, [.int (S.O_DearVotesModel.f_people a), .int (S.O_DearVotesModel.f_questions a), .int (S.O_DearVotesModel.f_projects a), .int (S.O_DearVotesModel.f_seed a), va_rf (S.O_DearVotesModel.f_budgets a), va_rf (S.O_DearVotesModel.f_isHere a), va_rf (S.O_DearVotesModel.f_votes a), va_rf (S.O_DearVotesModel.f_worths a), va_rf (S.O_DearVotesModel.f_gifts a), va_rf (S.O_DearVotesModel.f_bonds a), .int (S.O_DearVotesModel.f_rounds a), .int (S.O_DearVotesModel.f_changes a), .int (S.O_DearVotesModel.f_ended a), .int (S.O_DearVotesModel.f_ring a), va_rf (S.O_DearVotesModel.f_cheapest a), va_rf (S.O_DearVotesModel.f_may a), va_rf (S.O_DearVotesModel.f_bestVoices a), va_rf (S.O_DearVotesModel.f_tryVoices a), .int (S.O_DearVotesModel.f_bestGain a), .int (S.O_DearVotesModel.f_bestCost a), .int (S.O_DearVotesModel.f_hasBest a), va_rf (S.O_DearVotesModel.f_past a), va_rf (S.O_DearVotesModel.f_parts a), va_rf (S.O_DearVotesModel.f_rests a), .long (S.O_DearVotesModel.f_h a)]) := by simp [wPF, h]
theorem wGt_O_DearVotesModel (cyI : ClassId) (cyJ : ClassId) (cyZ : ClassId) (cyO28f5b : ClassId) (cyOff204 : ClassId) (X : va_W) (S : wPS) {a : Nat} (hL : a ∈ S.L) (h : S.K a = 5) : ∃ k : Nat, (X ++ va_pl S.L (wPF cyI cyJ cyZ cyO28f5b cyOff204 S))[k]? = some (a, wPF cyI cyJ cyZ cyO28f5b cyOff204 S a) ∧ (X ++ va_pl S.L (wPF cyI cyJ cyZ cyO28f5b cyOff204 S))[k]? = some (a, .inr (5, [.int (S.O_DearVotesModel.f_people a), .int (S.O_DearVotesModel.f_questions a), .int (S.O_DearVotesModel.f_projects a), .int (S.O_DearVotesModel.f_seed a), va_rf (S.O_DearVotesModel.f_budgets a), va_rf (S.O_DearVotesModel.f_isHere a), va_rf (S.O_DearVotesModel.f_votes a), va_rf (S.O_DearVotesModel.f_worths a), va_rf (S.O_DearVotesModel.f_gifts a), va_rf (S.O_DearVotesModel.f_bonds a), .int (S.O_DearVotesModel.f_rounds a), .int (S.O_DearVotesModel.f_changes a), .int (S.O_DearVotesModel.f_ended a), .int (S.O_DearVotesModel.f_ring a), va_rf (S.O_DearVotesModel.f_cheapest a), va_rf (S.O_DearVotesModel.f_may a), va_rf (S.O_DearVotesModel.f_bestVoices a), va_rf (S.O_DearVotesModel.f_tryVoices a), .int (S.O_DearVotesModel.f_bestGain a), .int (S.O_DearVotesModel.f_bestCost a), .int (S.O_DearVotesModel.f_hasBest a), va_rf (S.O_DearVotesModel.f_past a), va_rf (S.O_DearVotesModel.f_parts a), va_rf (S.O_DearVotesModel.f_rests a), .long (S.O_DearVotesModel.f_h a)])) := by
  obtain ⟨k, hk⟩ := va_pl_get (X := X) (f := wPF cyI cyJ cyZ cyO28f5b cyOff204 S) hL
  exact ⟨k, hk, hk.trans (congrArg (fun e => some (a, e)) (wAt_O_DearVotesModel cyI cyJ cyZ cyO28f5b cyOff204 S h))⟩
theorem wSt_O_DearVotesModel_f_people (cyI : ClassId) (cyJ : ClassId) (cyZ : ClassId) (cyO28f5b : ClassId) (cyOff204 : ClassId) (S : wPS) {a : Nat} (h : S.K a = 5) (v : Int32) (b : Nat) : va_up (wPF cyI cyJ cyZ cyO28f5b cyOff204 S) a (.inr (5, [.int v, .int (S.O_DearVotesModel.f_questions a), .int (S.O_DearVotesModel.f_projects a), .int (S.O_DearVotesModel.f_seed a), va_rf (S.O_DearVotesModel.f_budgets a), va_rf (S.O_DearVotesModel.f_isHere a), va_rf (S.O_DearVotesModel.f_votes a), va_rf (S.O_DearVotesModel.f_worths a), va_rf (S.O_DearVotesModel.f_gifts a), va_rf (S.O_DearVotesModel.f_bonds a), .int (S.O_DearVotesModel.f_rounds a), .int (S.O_DearVotesModel.f_changes a), .int (S.O_DearVotesModel.f_ended a), .int (S.O_DearVotesModel.f_ring a), va_rf (S.O_DearVotesModel.f_cheapest a), va_rf (S.O_DearVotesModel.f_may a), va_rf (S.O_DearVotesModel.f_bestVoices a), va_rf (S.O_DearVotesModel.f_tryVoices a), .int (S.O_DearVotesModel.f_bestGain a), .int (S.O_DearVotesModel.f_bestCost a), .int (S.O_DearVotesModel.f_hasBest a), va_rf (S.O_DearVotesModel.f_past a), va_rf (S.O_DearVotesModel.f_parts a), va_rf (S.O_DearVotesModel.f_rests a), .long (S.O_DearVotesModel.f_h a)])) b = wPF cyI cyJ cyZ cyO28f5b cyOff204 { S with O_DearVotesModel := { S.O_DearVotesModel with f_people := va_up S.O_DearVotesModel.f_people a v } } b := by by_cases hb : b = a <;> first | (simp only [wPF, va_up_ne _ _ hb]; done) | (simp only [wPF, va_up, if_neg hb]; done) | simp [wPF, va_re, va_up, va_rf, hb, h]
theorem wPu_O_DearVotesModel_f_people (cyI : ClassId) (cyJ : ClassId) (cyZ : ClassId) (cyO28f5b : ClassId) (cyOff204 : ClassId) (X : va_W) (S : wPS) {A : Nat → Prop} {a k : Nat} (hD : va_D A (X ++ va_pl S.L (wPF cyI cyJ cyZ cyO28f5b cyOff204 S))) (hL : a ∈ S.L) (h : S.K a = 5) (hk : (X ++ va_pl S.L (wPF cyI cyJ cyZ cyO28f5b cyOff204 S))[k]? = some (a, wPF cyI cyJ cyZ cyO28f5b cyOff204 S a)) (v : Int32) : (X ++ va_pl S.L (wPF cyI cyJ cyZ cyO28f5b cyOff204 S)).set k (a, .inr (5, [.int v, .int (S.O_DearVotesModel.f_questions a), .int (S.O_DearVotesModel.f_projects a), .int (S.O_DearVotesModel.f_seed a), va_rf (S.O_DearVotesModel.f_budgets a), va_rf (S.O_DearVotesModel.f_isHere a), va_rf (S.O_DearVotesModel.f_votes a), va_rf (S.O_DearVotesModel.f_worths a), va_rf (S.O_DearVotesModel.f_gifts a), va_rf (S.O_DearVotesModel.f_bonds a), .int (S.O_DearVotesModel.f_rounds a), .int (S.O_DearVotesModel.f_changes a), .int (S.O_DearVotesModel.f_ended a), .int (S.O_DearVotesModel.f_ring a), va_rf (S.O_DearVotesModel.f_cheapest a), va_rf (S.O_DearVotesModel.f_may a), va_rf (S.O_DearVotesModel.f_bestVoices a), va_rf (S.O_DearVotesModel.f_tryVoices a), .int (S.O_DearVotesModel.f_bestGain a), .int (S.O_DearVotesModel.f_bestCost a), .int (S.O_DearVotesModel.f_hasBest a), va_rf (S.O_DearVotesModel.f_past a), va_rf (S.O_DearVotesModel.f_parts a), va_rf (S.O_DearVotesModel.f_rests a), .long (S.O_DearVotesModel.f_h a)])) = X ++ va_pl S.L (wPF cyI cyJ cyZ cyO28f5b cyOff204 { S with O_DearVotesModel := { S.O_DearVotesModel with f_people := va_up S.O_DearVotesModel.f_people a v } }) := by
  rw [va_pl_set hD hL hk]
  exact congrArg (fun l => X ++ l) (va_pl_congr (wSt_O_DearVotesModel_f_people cyI cyJ cyZ cyO28f5b cyOff204 S h v))
theorem wSt_O_DearVotesModel_f_questions (cyI : ClassId) (cyJ : ClassId) (cyZ : ClassId) (cyO28f5b : ClassId) (cyOff204 : ClassId) (S : wPS) {a : Nat} (h : S.K a = 5) (v : Int32) (b : Nat) : va_up (wPF cyI cyJ cyZ cyO28f5b cyOff204 S) a (.inr (5, [.int (S.O_DearVotesModel.f_people a), .int v, .int (S.O_DearVotesModel.f_projects a), .int (S.O_DearVotesModel.f_seed a), va_rf (S.O_DearVotesModel.f_budgets a), va_rf (S.O_DearVotesModel.f_isHere a), va_rf (S.O_DearVotesModel.f_votes a), va_rf (S.O_DearVotesModel.f_worths a), va_rf (S.O_DearVotesModel.f_gifts a), va_rf (S.O_DearVotesModel.f_bonds a), .int (S.O_DearVotesModel.f_rounds a), .int (S.O_DearVotesModel.f_changes a), .int (S.O_DearVotesModel.f_ended a), .int (S.O_DearVotesModel.f_ring a), va_rf (S.O_DearVotesModel.f_cheapest a), va_rf (S.O_DearVotesModel.f_may a), va_rf (S.O_DearVotesModel.f_bestVoices a), va_rf (S.O_DearVotesModel.f_tryVoices a), .int (S.O_DearVotesModel.f_bestGain a), .int (S.O_DearVotesModel.f_bestCost a), .int (S.O_DearVotesModel.f_hasBest a), va_rf (S.O_DearVotesModel.f_past a), va_rf (S.O_DearVotesModel.f_parts a), va_rf (S.O_DearVotesModel.f_rests a), .long (S.O_DearVotesModel.f_h a)])) b = wPF cyI cyJ cyZ cyO28f5b cyOff204 { S with O_DearVotesModel := { S.O_DearVotesModel with f_questions := va_up S.O_DearVotesModel.f_questions a v } } b := by by_cases hb : b = a <;> first | (simp only [wPF, va_up_ne _ _ hb]; done) | (simp only [wPF, va_up, if_neg hb]; done) | simp [wPF, va_re, va_up, va_rf, hb, h]
theorem wPu_O_DearVotesModel_f_questions (cyI : ClassId) (cyJ : ClassId) (cyZ : ClassId) (cyO28f5b : ClassId) (cyOff204 : ClassId) (X : va_W) (S : wPS) {A : Nat → Prop} {a k : Nat} (hD : va_D A (X ++ va_pl S.L (wPF cyI cyJ cyZ cyO28f5b cyOff204 S))) (hL : a ∈ S.L) (h : S.K a = 5) (hk : (X ++ va_pl S.L (wPF cyI cyJ cyZ cyO28f5b cyOff204 S))[k]? = some (a, wPF cyI cyJ cyZ cyO28f5b cyOff204 S a)) (v : Int32) : (X ++ va_pl S.L (wPF cyI cyJ cyZ cyO28f5b cyOff204 S)).set k (a, .inr (5, [.int (S.O_DearVotesModel.f_people a), .int v, .int (S.O_DearVotesModel.f_projects a), .int (S.O_DearVotesModel.f_seed a), va_rf (S.O_DearVotesModel.f_budgets a), va_rf (S.O_DearVotesModel.f_isHere a), va_rf (S.O_DearVotesModel.f_votes a), va_rf (S.O_DearVotesModel.f_worths a), va_rf (S.O_DearVotesModel.f_gifts a), va_rf (S.O_DearVotesModel.f_bonds a), .int (S.O_DearVotesModel.f_rounds a), .int (S.O_DearVotesModel.f_changes a), .int (S.O_DearVotesModel.f_ended a), .int (S.O_DearVotesModel.f_ring a), va_rf (S.O_DearVotesModel.f_cheapest a), va_rf (S.O_DearVotesModel.f_may a), va_rf (S.O_DearVotesModel.f_bestVoices a), va_rf (S.O_DearVotesModel.f_tryVoices a), .int (S.O_DearVotesModel.f_bestGain a), .int (S.O_DearVotesModel.f_bestCost a), .int (S.O_DearVotesModel.f_hasBest a), va_rf (S.O_DearVotesModel.f_past a), va_rf (S.O_DearVotesModel.f_parts a), va_rf (S.O_DearVotesModel.f_rests a), .long (S.O_DearVotesModel.f_h a)])) = X ++ va_pl S.L (wPF cyI cyJ cyZ cyO28f5b cyOff204 { S with O_DearVotesModel := { S.O_DearVotesModel with f_questions := va_up S.O_DearVotesModel.f_questions a v } }) := by
  rw [va_pl_set hD hL hk]
  exact congrArg (fun l => X ++ l) (va_pl_congr (wSt_O_DearVotesModel_f_questions cyI cyJ cyZ cyO28f5b cyOff204 S h v))
theorem wSt_O_DearVotesModel_f_projects (cyI : ClassId) (cyJ : ClassId) (cyZ : ClassId) (cyO28f5b : ClassId) (cyOff204 : ClassId) (S : wPS) {a : Nat} (h : S.K a = 5) (v : Int32) (b : Nat) : va_up (wPF cyI cyJ cyZ cyO28f5b cyOff204 S) a (.inr (5, [.int (S.O_DearVotesModel.f_people a), .int (S.O_DearVotesModel.f_questions a), .int v, .int (S.O_DearVotesModel.f_seed a), va_rf (S.O_DearVotesModel.f_budgets a), va_rf (S.O_DearVotesModel.f_isHere a), va_rf (S.O_DearVotesModel.f_votes a), va_rf (S.O_DearVotesModel.f_worths a), va_rf (S.O_DearVotesModel.f_gifts a), va_rf (S.O_DearVotesModel.f_bonds a), .int (S.O_DearVotesModel.f_rounds a), .int (S.O_DearVotesModel.f_changes a), .int (S.O_DearVotesModel.f_ended a), .int (S.O_DearVotesModel.f_ring a), va_rf (S.O_DearVotesModel.f_cheapest a), va_rf (S.O_DearVotesModel.f_may a), va_rf (S.O_DearVotesModel.f_bestVoices a), va_rf (S.O_DearVotesModel.f_tryVoices a), .int (S.O_DearVotesModel.f_bestGain a), .int (S.O_DearVotesModel.f_bestCost a), .int (S.O_DearVotesModel.f_hasBest a), va_rf (S.O_DearVotesModel.f_past a), va_rf (S.O_DearVotesModel.f_parts a), va_rf (S.O_DearVotesModel.f_rests a), .long (S.O_DearVotesModel.f_h a)])) b = wPF cyI cyJ cyZ cyO28f5b cyOff204 { S with O_DearVotesModel := { S.O_DearVotesModel with f_projects := va_up S.O_DearVotesModel.f_projects a v } } b := by by_cases hb : b = a <;> first | (simp only [wPF, va_up_ne _ _ hb]; done) | (simp only [wPF, va_up, if_neg hb]; done) | simp [wPF, va_re, va_up, va_rf, hb, h]
theorem wPu_O_DearVotesModel_f_projects (cyI : ClassId) (cyJ : ClassId) (cyZ : ClassId) (cyO28f5b : ClassId) (cyOff204 : ClassId) (X : va_W) (S : wPS) {A : Nat → Prop} {a k : Nat} (hD : va_D A (X ++ va_pl S.L (wPF cyI cyJ cyZ cyO28f5b cyOff204 S))) (hL : a ∈ S.L) (h : S.K a = 5) (hk : (X ++ va_pl S.L (wPF cyI cyJ cyZ cyO28f5b cyOff204 S))[k]? = some (a, wPF cyI cyJ cyZ cyO28f5b cyOff204 S a)) (v : Int32) : (X ++ va_pl S.L (wPF cyI cyJ cyZ cyO28f5b cyOff204 S)).set k (a, .inr (5, [.int (S.O_DearVotesModel.f_people a), .int (S.O_DearVotesModel.f_questions a), .int v, .int (S.O_DearVotesModel.f_seed a), va_rf (S.O_DearVotesModel.f_budgets a), va_rf (S.O_DearVotesModel.f_isHere a), va_rf (S.O_DearVotesModel.f_votes a), va_rf (S.O_DearVotesModel.f_worths a), va_rf (S.O_DearVotesModel.f_gifts a), va_rf (S.O_DearVotesModel.f_bonds a), .int (S.O_DearVotesModel.f_rounds a), .int (S.O_DearVotesModel.f_changes a), .int (S.O_DearVotesModel.f_ended a), .int (S.O_DearVotesModel.f_ring a), va_rf (S.O_DearVotesModel.f_cheapest a), va_rf (S.O_DearVotesModel.f_may a), va_rf (S.O_DearVotesModel.f_bestVoices a), va_rf (S.O_DearVotesModel.f_tryVoices a), .int (S.O_DearVotesModel.f_bestGain a), .int (S.O_DearVotesModel.f_bestCost a), .int (S.O_DearVotesModel.f_hasBest a), va_rf (S.O_DearVotesModel.f_past a), va_rf (S.O_DearVotesModel.f_parts a), va_rf (S.O_DearVotesModel.f_rests a), .long (S.O_DearVotesModel.f_h a)])) = X ++ va_pl S.L (wPF cyI cyJ cyZ cyO28f5b cyOff204 { S with O_DearVotesModel := { S.O_DearVotesModel with f_projects := va_up S.O_DearVotesModel.f_projects a v } }) := by
  rw [va_pl_set hD hL hk]
  exact congrArg (fun l => X ++ l) (va_pl_congr (wSt_O_DearVotesModel_f_projects cyI cyJ cyZ cyO28f5b cyOff204 S h v))
theorem wSt_O_DearVotesModel_f_seed (cyI : ClassId) (cyJ : ClassId) (cyZ : ClassId) (cyO28f5b : ClassId) (cyOff204 : ClassId) (S : wPS) {a : Nat} (h : S.K a = 5) (v : Int32) (b : Nat) : va_up (wPF cyI cyJ cyZ cyO28f5b cyOff204 S) a (.inr (5, [.int (S.O_DearVotesModel.f_people a), .int (S.O_DearVotesModel.f_questions a), .int (S.O_DearVotesModel.f_projects a), .int v, va_rf (S.O_DearVotesModel.f_budgets a), va_rf (S.O_DearVotesModel.f_isHere a), va_rf (S.O_DearVotesModel.f_votes a), va_rf (S.O_DearVotesModel.f_worths a), va_rf (S.O_DearVotesModel.f_gifts a), va_rf (S.O_DearVotesModel.f_bonds a), .int (S.O_DearVotesModel.f_rounds a), .int (S.O_DearVotesModel.f_changes a), .int (S.O_DearVotesModel.f_ended a), .int (S.O_DearVotesModel.f_ring a), va_rf (S.O_DearVotesModel.f_cheapest a), va_rf (S.O_DearVotesModel.f_may a), va_rf (S.O_DearVotesModel.f_bestVoices a), va_rf (S.O_DearVotesModel.f_tryVoices a), .int (S.O_DearVotesModel.f_bestGain a), .int (S.O_DearVotesModel.f_bestCost a), .int (S.O_DearVotesModel.f_hasBest a), va_rf (S.O_DearVotesModel.f_past a), va_rf (S.O_DearVotesModel.f_parts a), va_rf (S.O_DearVotesModel.f_rests a), .long (S.O_DearVotesModel.f_h a)])) b = wPF cyI cyJ cyZ cyO28f5b cyOff204 { S with O_DearVotesModel := { S.O_DearVotesModel with f_seed := va_up S.O_DearVotesModel.f_seed a v } } b := by by_cases hb : b = a <;> first | (simp only [wPF, va_up_ne _ _ hb]; done) | (simp only [wPF, va_up, if_neg hb]; done) | simp [wPF, va_re, va_up, va_rf, hb, h]
theorem wPu_O_DearVotesModel_f_seed (cyI : ClassId) (cyJ : ClassId) (cyZ : ClassId) (cyO28f5b : ClassId) (cyOff204 : ClassId) (X : va_W) (S : wPS) {A : Nat → Prop} {a k : Nat} (hD : va_D A (X ++ va_pl S.L (wPF cyI cyJ cyZ cyO28f5b cyOff204 S))) (hL : a ∈ S.L) (h : S.K a = 5) (hk : (X ++ va_pl S.L (wPF cyI cyJ cyZ cyO28f5b cyOff204 S))[k]? = some (a, wPF cyI cyJ cyZ cyO28f5b cyOff204 S a)) (v : Int32) : (X ++ va_pl S.L (wPF cyI cyJ cyZ cyO28f5b cyOff204 S)).set k (a, .inr (5, [.int (S.O_DearVotesModel.f_people a), .int (S.O_DearVotesModel.f_questions a), .int (S.O_DearVotesModel.f_projects a), .int v, va_rf (S.O_DearVotesModel.f_budgets a), va_rf (S.O_DearVotesModel.f_isHere a), va_rf (S.O_DearVotesModel.f_votes a), va_rf (S.O_DearVotesModel.f_worths a), va_rf (S.O_DearVotesModel.f_gifts a), va_rf (S.O_DearVotesModel.f_bonds a), .int (S.O_DearVotesModel.f_rounds a), .int (S.O_DearVotesModel.f_changes a), .int (S.O_DearVotesModel.f_ended a), .int (S.O_DearVotesModel.f_ring a), va_rf (S.O_DearVotesModel.f_cheapest a), va_rf (S.O_DearVotesModel.f_may a), va_rf (S.O_DearVotesModel.f_bestVoices a), va_rf (S.O_DearVotesModel.f_tryVoices a), .int (S.O_DearVotesModel.f_bestGain a), .int (S.O_DearVotesModel.f_bestCost a), .int (S.O_DearVotesModel.f_hasBest a), va_rf (S.O_DearVotesModel.f_past a), va_rf (S.O_DearVotesModel.f_parts a), va_rf (S.O_DearVotesModel.f_rests a), .long (S.O_DearVotesModel.f_h a)])) = X ++ va_pl S.L (wPF cyI cyJ cyZ cyO28f5b cyOff204 { S with O_DearVotesModel := { S.O_DearVotesModel with f_seed := va_up S.O_DearVotesModel.f_seed a v } }) := by
  rw [va_pl_set hD hL hk]
  exact congrArg (fun l => X ++ l) (va_pl_congr (wSt_O_DearVotesModel_f_seed cyI cyJ cyZ cyO28f5b cyOff204 S h v))
theorem wSt_O_DearVotesModel_f_budgets (cyI : ClassId) (cyJ : ClassId) (cyZ : ClassId) (cyO28f5b : ClassId) (cyOff204 : ClassId) (S : wPS) {a : Nat} (h : S.K a = 5) (v : Option Nat) (b : Nat) : va_up (wPF cyI cyJ cyZ cyO28f5b cyOff204 S) a (.inr (5, [.int (S.O_DearVotesModel.f_people a), .int (S.O_DearVotesModel.f_questions a), .int (S.O_DearVotesModel.f_projects a), .int (S.O_DearVotesModel.f_seed a), va_rf v, va_rf (S.O_DearVotesModel.f_isHere a), va_rf (S.O_DearVotesModel.f_votes a), va_rf (S.O_DearVotesModel.f_worths a), va_rf (S.O_DearVotesModel.f_gifts a), va_rf (S.O_DearVotesModel.f_bonds a), .int (S.O_DearVotesModel.f_rounds a), .int (S.O_DearVotesModel.f_changes a), .int (S.O_DearVotesModel.f_ended a), .int (S.O_DearVotesModel.f_ring a), va_rf (S.O_DearVotesModel.f_cheapest a), va_rf (S.O_DearVotesModel.f_may a), va_rf (S.O_DearVotesModel.f_bestVoices a), va_rf (S.O_DearVotesModel.f_tryVoices a), .int (S.O_DearVotesModel.f_bestGain a), .int (S.O_DearVotesModel.f_bestCost a), .int (S.O_DearVotesModel.f_hasBest a), va_rf (S.O_DearVotesModel.f_past a), va_rf (S.O_DearVotesModel.f_parts a), va_rf (S.O_DearVotesModel.f_rests a), .long (S.O_DearVotesModel.f_h a)])) b = wPF cyI cyJ cyZ cyO28f5b cyOff204 { S with O_DearVotesModel := { S.O_DearVotesModel with f_budgets := va_up S.O_DearVotesModel.f_budgets a v } } b := by by_cases hb : b = a <;> first | (simp only [wPF, va_up_ne _ _ hb]; done) | (simp only [wPF, va_up, if_neg hb]; done) | simp [wPF, va_re, va_up, va_rf, hb, h]
theorem wPu_O_DearVotesModel_f_budgets (cyI : ClassId) (cyJ : ClassId) (cyZ : ClassId) (cyO28f5b : ClassId) (cyOff204 : ClassId) (X : va_W) (S : wPS) {A : Nat → Prop} {a k : Nat} (hD : va_D A (X ++ va_pl S.L (wPF cyI cyJ cyZ cyO28f5b cyOff204 S))) (hL : a ∈ S.L) (h : S.K a = 5) (hk : (X ++ va_pl S.L (wPF cyI cyJ cyZ cyO28f5b cyOff204 S))[k]? = some (a, wPF cyI cyJ cyZ cyO28f5b cyOff204 S a)) (v : Option Nat) : (X ++ va_pl S.L (wPF cyI cyJ cyZ cyO28f5b cyOff204 S)).set k (a, .inr (5, [.int (S.O_DearVotesModel.f_people a), .int (S.O_DearVotesModel.f_questions a), .int (S.O_DearVotesModel.f_projects a), .int (S.O_DearVotesModel.f_seed a), va_rf v, va_rf (S.O_DearVotesModel.f_isHere a), va_rf (S.O_DearVotesModel.f_votes a), va_rf (S.O_DearVotesModel.f_worths a), va_rf (S.O_DearVotesModel.f_gifts a), va_rf (S.O_DearVotesModel.f_bonds a), .int (S.O_DearVotesModel.f_rounds a), .int (S.O_DearVotesModel.f_changes a), .int (S.O_DearVotesModel.f_ended a), .int (S.O_DearVotesModel.f_ring a), va_rf (S.O_DearVotesModel.f_cheapest a), va_rf (S.O_DearVotesModel.f_may a), va_rf (S.O_DearVotesModel.f_bestVoices a), va_rf (S.O_DearVotesModel.f_tryVoices a), .int (S.O_DearVotesModel.f_bestGain a), .int (S.O_DearVotesModel.f_bestCost a), .int (S.O_DearVotesModel.f_hasBest a), va_rf (S.O_DearVotesModel.f_past a), va_rf (S.O_DearVotesModel.f_parts a), va_rf (S.O_DearVotesModel.f_rests a), .long (S.O_DearVotesModel.f_h a)])) = X ++ va_pl S.L (wPF cyI cyJ cyZ cyO28f5b cyOff204 { S with O_DearVotesModel := { S.O_DearVotesModel with f_budgets := va_up S.O_DearVotesModel.f_budgets a v } }) := by
  rw [va_pl_set hD hL hk]
  exact congrArg (fun l => X ++ l) (va_pl_congr (wSt_O_DearVotesModel_f_budgets cyI cyJ cyZ cyO28f5b cyOff204 S h v))
theorem wSt_O_DearVotesModel_f_isHere (cyI : ClassId) (cyJ : ClassId) (cyZ : ClassId) (cyO28f5b : ClassId) (cyOff204 : ClassId) (S : wPS) {a : Nat} (h : S.K a = 5) (v : Option Nat) (b : Nat) : va_up (wPF cyI cyJ cyZ cyO28f5b cyOff204 S) a (.inr (5, [.int (S.O_DearVotesModel.f_people a), .int (S.O_DearVotesModel.f_questions a), .int (S.O_DearVotesModel.f_projects a), .int (S.O_DearVotesModel.f_seed a), va_rf (S.O_DearVotesModel.f_budgets a), va_rf v, va_rf (S.O_DearVotesModel.f_votes a), va_rf (S.O_DearVotesModel.f_worths a), va_rf (S.O_DearVotesModel.f_gifts a), va_rf (S.O_DearVotesModel.f_bonds a), .int (S.O_DearVotesModel.f_rounds a), .int (S.O_DearVotesModel.f_changes a), .int (S.O_DearVotesModel.f_ended a), .int (S.O_DearVotesModel.f_ring a), va_rf (S.O_DearVotesModel.f_cheapest a), va_rf (S.O_DearVotesModel.f_may a), va_rf (S.O_DearVotesModel.f_bestVoices a), va_rf (S.O_DearVotesModel.f_tryVoices a), .int (S.O_DearVotesModel.f_bestGain a), .int (S.O_DearVotesModel.f_bestCost a), .int (S.O_DearVotesModel.f_hasBest a), va_rf (S.O_DearVotesModel.f_past a), va_rf (S.O_DearVotesModel.f_parts a), va_rf (S.O_DearVotesModel.f_rests a), .long (S.O_DearVotesModel.f_h a)])) b = wPF cyI cyJ cyZ cyO28f5b cyOff204 { S with O_DearVotesModel := { S.O_DearVotesModel with f_isHere := va_up S.O_DearVotesModel.f_isHere a v } } b := by by_cases hb : b = a <;> first | (simp only [wPF, va_up_ne _ _ hb]; done) | (simp only [wPF, va_up, if_neg hb]; done) | simp [wPF, va_re, va_up, va_rf, hb, h]
theorem wPu_O_DearVotesModel_f_isHere (cyI : ClassId) (cyJ : ClassId) (cyZ : ClassId) (cyO28f5b : ClassId) (cyOff204 : ClassId) (X : va_W) (S : wPS) {A : Nat → Prop} {a k : Nat} (hD : va_D A (X ++ va_pl S.L (wPF cyI cyJ cyZ cyO28f5b cyOff204 S))) (hL : a ∈ S.L) (h : S.K a = 5) (hk : (X ++ va_pl S.L (wPF cyI cyJ cyZ cyO28f5b cyOff204 S))[k]? = some (a, wPF cyI cyJ cyZ cyO28f5b cyOff204 S a)) (v : Option Nat) : (X ++ va_pl S.L (wPF cyI cyJ cyZ cyO28f5b cyOff204 S)).set k (a, .inr (5, [.int (S.O_DearVotesModel.f_people a), .int (S.O_DearVotesModel.f_questions a), .int (S.O_DearVotesModel.f_projects a), .int (S.O_DearVotesModel.f_seed a), va_rf (S.O_DearVotesModel.f_budgets a), va_rf v, va_rf (S.O_DearVotesModel.f_votes a), va_rf (S.O_DearVotesModel.f_worths a), va_rf (S.O_DearVotesModel.f_gifts a), va_rf (S.O_DearVotesModel.f_bonds a), .int (S.O_DearVotesModel.f_rounds a), .int (S.O_DearVotesModel.f_changes a), .int (S.O_DearVotesModel.f_ended a), .int (S.O_DearVotesModel.f_ring a), va_rf (S.O_DearVotesModel.f_cheapest a), va_rf (S.O_DearVotesModel.f_may a), va_rf (S.O_DearVotesModel.f_bestVoices a), va_rf (S.O_DearVotesModel.f_tryVoices a), .int (S.O_DearVotesModel.f_bestGain a), .int (S.O_DearVotesModel.f_bestCost a), .int (S.O_DearVotesModel.f_hasBest a), va_rf (S.O_DearVotesModel.f_past a), va_rf (S.O_DearVotesModel.f_parts a), va_rf (S.O_DearVotesModel.f_rests a), .long (S.O_DearVotesModel.f_h a)])) = X ++ va_pl S.L (wPF cyI cyJ cyZ cyO28f5b cyOff204 { S with O_DearVotesModel := { S.O_DearVotesModel with f_isHere := va_up S.O_DearVotesModel.f_isHere a v } }) := by
  rw [va_pl_set hD hL hk]
  exact congrArg (fun l => X ++ l) (va_pl_congr (wSt_O_DearVotesModel_f_isHere cyI cyJ cyZ cyO28f5b cyOff204 S h v))
theorem wSt_O_DearVotesModel_f_votes (cyI : ClassId) (cyJ : ClassId) (cyZ : ClassId) (cyO28f5b : ClassId) (cyOff204 : ClassId) (S : wPS) {a : Nat} (h : S.K a = 5) (v : Option Nat) (b : Nat) : va_up (wPF cyI cyJ cyZ cyO28f5b cyOff204 S) a (.inr (5, [.int (S.O_DearVotesModel.f_people a), .int (S.O_DearVotesModel.f_questions a), .int (S.O_DearVotesModel.f_projects a), .int (S.O_DearVotesModel.f_seed a), va_rf (S.O_DearVotesModel.f_budgets a), va_rf (S.O_DearVotesModel.f_isHere a), va_rf v, va_rf (S.O_DearVotesModel.f_worths a), va_rf (S.O_DearVotesModel.f_gifts a), va_rf (S.O_DearVotesModel.f_bonds a), .int (S.O_DearVotesModel.f_rounds a), .int (S.O_DearVotesModel.f_changes a), .int (S.O_DearVotesModel.f_ended a), .int (S.O_DearVotesModel.f_ring a), va_rf (S.O_DearVotesModel.f_cheapest a), va_rf (S.O_DearVotesModel.f_may a), va_rf (S.O_DearVotesModel.f_bestVoices a), va_rf (S.O_DearVotesModel.f_tryVoices a), .int (S.O_DearVotesModel.f_bestGain a), .int (S.O_DearVotesModel.f_bestCost a), .int (S.O_DearVotesModel.f_hasBest a), va_rf (S.O_DearVotesModel.f_past a), va_rf (S.O_DearVotesModel.f_parts a), va_rf (S.O_DearVotesModel.f_rests a), .long (S.O_DearVotesModel.f_h a)])) b = wPF cyI cyJ cyZ cyO28f5b cyOff204 { S with O_DearVotesModel := { S.O_DearVotesModel with f_votes := va_up S.O_DearVotesModel.f_votes a v } } b := by by_cases hb : b = a <;> first | (simp only [wPF, va_up_ne _ _ hb]; done) | (simp only [wPF, va_up, if_neg hb]; done) | simp [wPF, va_re, va_up, va_rf, hb, h]
theorem wPu_O_DearVotesModel_f_votes (cyI : ClassId) (cyJ : ClassId) (cyZ : ClassId) (cyO28f5b : ClassId) (cyOff204 : ClassId) (X : va_W) (S : wPS) {A : Nat → Prop} {a k : Nat} (hD : va_D A (X ++ va_pl S.L (wPF cyI cyJ cyZ cyO28f5b cyOff204 S))) (hL : a ∈ S.L) (h : S.K a = 5) (hk : (X ++ va_pl S.L (wPF cyI cyJ cyZ cyO28f5b cyOff204 S))[k]? = some (a, wPF cyI cyJ cyZ cyO28f5b cyOff204 S a)) (v : Option Nat) : (X ++ va_pl S.L (wPF cyI cyJ cyZ cyO28f5b cyOff204 S)).set k (a, .inr (5, [.int (S.O_DearVotesModel.f_people a), .int (S.O_DearVotesModel.f_questions a), .int (S.O_DearVotesModel.f_projects a), .int (S.O_DearVotesModel.f_seed a), va_rf (S.O_DearVotesModel.f_budgets a), va_rf (S.O_DearVotesModel.f_isHere a), va_rf v, va_rf (S.O_DearVotesModel.f_worths a), va_rf (S.O_DearVotesModel.f_gifts a), va_rf (S.O_DearVotesModel.f_bonds a), .int (S.O_DearVotesModel.f_rounds a), .int (S.O_DearVotesModel.f_changes a), .int (S.O_DearVotesModel.f_ended a), .int (S.O_DearVotesModel.f_ring a), va_rf (S.O_DearVotesModel.f_cheapest a), va_rf (S.O_DearVotesModel.f_may a), va_rf (S.O_DearVotesModel.f_bestVoices a), va_rf (S.O_DearVotesModel.f_tryVoices a), .int (S.O_DearVotesModel.f_bestGain a), .int (S.O_DearVotesModel.f_bestCost a), .int (S.O_DearVotesModel.f_hasBest a), va_rf (S.O_DearVotesModel.f_past a), va_rf (S.O_DearVotesModel.f_parts a), va_rf (S.O_DearVotesModel.f_rests a), .long (S.O_DearVotesModel.f_h a)])) = X ++ va_pl S.L (wPF cyI cyJ cyZ cyO28f5b cyOff204 { S with O_DearVotesModel := { S.O_DearVotesModel with f_votes := va_up S.O_DearVotesModel.f_votes a v } }) := by
  rw [va_pl_set hD hL hk]
  exact congrArg (fun l => X ++ l) (va_pl_congr (wSt_O_DearVotesModel_f_votes cyI cyJ cyZ cyO28f5b cyOff204 S h v))
theorem wSt_O_DearVotesModel_f_worths (cyI : ClassId) (cyJ : ClassId) (cyZ : ClassId) (cyO28f5b : ClassId) (cyOff204 : ClassId) (S : wPS) {a : Nat} (h : S.K a = 5) (v : Option Nat) (b : Nat) : va_up (wPF cyI cyJ cyZ cyO28f5b cyOff204 S) a (.inr (5, [.int (S.O_DearVotesModel.f_people a), .int (S.O_DearVotesModel.f_questions a), .int (S.O_DearVotesModel.f_projects a), .int (S.O_DearVotesModel.f_seed a), va_rf (S.O_DearVotesModel.f_budgets a), va_rf (S.O_DearVotesModel.f_isHere a), va_rf (S.O_DearVotesModel.f_votes a), va_rf v, va_rf (S.O_DearVotesModel.f_gifts a), va_rf (S.O_DearVotesModel.f_bonds a), .int (S.O_DearVotesModel.f_rounds a), .int (S.O_DearVotesModel.f_changes a), .int (S.O_DearVotesModel.f_ended a), .int (S.O_DearVotesModel.f_ring a), va_rf (S.O_DearVotesModel.f_cheapest a), va_rf (S.O_DearVotesModel.f_may a), va_rf (S.O_DearVotesModel.f_bestVoices a), va_rf (S.O_DearVotesModel.f_tryVoices a), .int (S.O_DearVotesModel.f_bestGain a), .int (S.O_DearVotesModel.f_bestCost a), .int (S.O_DearVotesModel.f_hasBest a), va_rf (S.O_DearVotesModel.f_past a), va_rf (S.O_DearVotesModel.f_parts a), va_rf (S.O_DearVotesModel.f_rests a), .long (S.O_DearVotesModel.f_h a)])) b = wPF cyI cyJ cyZ cyO28f5b cyOff204 { S with O_DearVotesModel := { S.O_DearVotesModel with f_worths := va_up S.O_DearVotesModel.f_worths a v } } b := by by_cases hb : b = a <;> first | (simp only [wPF, va_up_ne _ _ hb]; done) | (simp only [wPF, va_up, if_neg hb]; done) | simp [wPF, va_re, va_up, va_rf, hb, h]
theorem wPu_O_DearVotesModel_f_worths (cyI : ClassId) (cyJ : ClassId) (cyZ : ClassId) (cyO28f5b : ClassId) (cyOff204 : ClassId) (X : va_W) (S : wPS) {A : Nat → Prop} {a k : Nat} (hD : va_D A (X ++ va_pl S.L (wPF cyI cyJ cyZ cyO28f5b cyOff204 S))) (hL : a ∈ S.L) (h : S.K a = 5) (hk : (X ++ va_pl S.L (wPF cyI cyJ cyZ cyO28f5b cyOff204 S))[k]? = some (a, wPF cyI cyJ cyZ cyO28f5b cyOff204 S a)) (v : Option Nat) : (X ++ va_pl S.L (wPF cyI cyJ cyZ cyO28f5b cyOff204 S)).set k (a, .inr (5, [.int (S.O_DearVotesModel.f_people a), .int (S.O_DearVotesModel.f_questions a), .int (S.O_DearVotesModel.f_projects a), .int (S.O_DearVotesModel.f_seed a), va_rf (S.O_DearVotesModel.f_budgets a), va_rf (S.O_DearVotesModel.f_isHere a), va_rf (S.O_DearVotesModel.f_votes a), va_rf v, va_rf (S.O_DearVotesModel.f_gifts a), va_rf (S.O_DearVotesModel.f_bonds a), .int (S.O_DearVotesModel.f_rounds a), .int (S.O_DearVotesModel.f_changes a), .int (S.O_DearVotesModel.f_ended a), .int (S.O_DearVotesModel.f_ring a), va_rf (S.O_DearVotesModel.f_cheapest a), va_rf (S.O_DearVotesModel.f_may a), va_rf (S.O_DearVotesModel.f_bestVoices a), va_rf (S.O_DearVotesModel.f_tryVoices a), .int (S.O_DearVotesModel.f_bestGain a), .int (S.O_DearVotesModel.f_bestCost a), .int (S.O_DearVotesModel.f_hasBest a), va_rf (S.O_DearVotesModel.f_past a), va_rf (S.O_DearVotesModel.f_parts a), va_rf (S.O_DearVotesModel.f_rests a), .long (S.O_DearVotesModel.f_h a)])) = X ++ va_pl S.L (wPF cyI cyJ cyZ cyO28f5b cyOff204 { S with O_DearVotesModel := { S.O_DearVotesModel with f_worths := va_up S.O_DearVotesModel.f_worths a v } }) := by
  rw [va_pl_set hD hL hk]
  exact congrArg (fun l => X ++ l) (va_pl_congr (wSt_O_DearVotesModel_f_worths cyI cyJ cyZ cyO28f5b cyOff204 S h v))
theorem wSt_O_DearVotesModel_f_gifts (cyI : ClassId) (cyJ : ClassId) (cyZ : ClassId) (cyO28f5b : ClassId) (cyOff204 : ClassId) (S : wPS) {a : Nat} (h : S.K a = 5) (v : Option Nat) (b : Nat) : va_up (wPF cyI cyJ cyZ cyO28f5b cyOff204 S) a (.inr (5, [.int (S.O_DearVotesModel.f_people a), .int (S.O_DearVotesModel.f_questions a), .int (S.O_DearVotesModel.f_projects a), .int (S.O_DearVotesModel.f_seed a), va_rf (S.O_DearVotesModel.f_budgets a), va_rf (S.O_DearVotesModel.f_isHere a), va_rf (S.O_DearVotesModel.f_votes a), va_rf (S.O_DearVotesModel.f_worths a), va_rf v, va_rf (S.O_DearVotesModel.f_bonds a), .int (S.O_DearVotesModel.f_rounds a), .int (S.O_DearVotesModel.f_changes a), .int (S.O_DearVotesModel.f_ended a), .int (S.O_DearVotesModel.f_ring a), va_rf (S.O_DearVotesModel.f_cheapest a), va_rf (S.O_DearVotesModel.f_may a), va_rf (S.O_DearVotesModel.f_bestVoices a), va_rf (S.O_DearVotesModel.f_tryVoices a), .int (S.O_DearVotesModel.f_bestGain a), .int (S.O_DearVotesModel.f_bestCost a), .int (S.O_DearVotesModel.f_hasBest a), va_rf (S.O_DearVotesModel.f_past a), va_rf (S.O_DearVotesModel.f_parts a), va_rf (S.O_DearVotesModel.f_rests a), .long (S.O_DearVotesModel.f_h a)])) b = wPF cyI cyJ cyZ cyO28f5b cyOff204 { S with O_DearVotesModel := { S.O_DearVotesModel with f_gifts := va_up S.O_DearVotesModel.f_gifts a v } } b := by by_cases hb : b = a <;> first | (simp only [wPF, va_up_ne _ _ hb]; done) | (simp only [wPF, va_up, if_neg hb]; done) | simp [wPF, va_re, va_up, va_rf, hb, h]
theorem wPu_O_DearVotesModel_f_gifts (cyI : ClassId) (cyJ : ClassId) (cyZ : ClassId) (cyO28f5b : ClassId) (cyOff204 : ClassId) (X : va_W) (S : wPS) {A : Nat → Prop} {a k : Nat} (hD : va_D A (X ++ va_pl S.L (wPF cyI cyJ cyZ cyO28f5b cyOff204 S))) (hL : a ∈ S.L) (h : S.K a = 5) (hk : (X ++ va_pl S.L (wPF cyI cyJ cyZ cyO28f5b cyOff204 S))[k]? = some (a, wPF cyI cyJ cyZ cyO28f5b cyOff204 S a)) (v : Option Nat) : (X ++ va_pl S.L (wPF cyI cyJ cyZ cyO28f5b cyOff204 S)).set k (a, .inr (5, [.int (S.O_DearVotesModel.f_people a), .int (S.O_DearVotesModel.f_questions a), .int (S.O_DearVotesModel.f_projects a), .int (S.O_DearVotesModel.f_seed a), va_rf (S.O_DearVotesModel.f_budgets a), va_rf (S.O_DearVotesModel.f_isHere a), va_rf (S.O_DearVotesModel.f_votes a), va_rf (S.O_DearVotesModel.f_worths a), va_rf v, va_rf (S.O_DearVotesModel.f_bonds a), .int (S.O_DearVotesModel.f_rounds a), .int (S.O_DearVotesModel.f_changes a), .int (S.O_DearVotesModel.f_ended a), .int (S.O_DearVotesModel.f_ring a), va_rf (S.O_DearVotesModel.f_cheapest a), va_rf (S.O_DearVotesModel.f_may a), va_rf (S.O_DearVotesModel.f_bestVoices a), va_rf (S.O_DearVotesModel.f_tryVoices a), .int (S.O_DearVotesModel.f_bestGain a), .int (S.O_DearVotesModel.f_bestCost a), .int (S.O_DearVotesModel.f_hasBest a), va_rf (S.O_DearVotesModel.f_past a), va_rf (S.O_DearVotesModel.f_parts a), va_rf (S.O_DearVotesModel.f_rests a), .long (S.O_DearVotesModel.f_h a)])) = X ++ va_pl S.L (wPF cyI cyJ cyZ cyO28f5b cyOff204 { S with O_DearVotesModel := { S.O_DearVotesModel with f_gifts := va_up S.O_DearVotesModel.f_gifts a v } }) := by
  rw [va_pl_set hD hL hk]
  exact congrArg (fun l => X ++ l) (va_pl_congr (wSt_O_DearVotesModel_f_gifts cyI cyJ cyZ cyO28f5b cyOff204 S h v))
theorem wSt_O_DearVotesModel_f_bonds (cyI : ClassId) (cyJ : ClassId) (cyZ : ClassId) (cyO28f5b : ClassId) (cyOff204 : ClassId) (S : wPS) {a : Nat} (h : S.K a = 5) (v : Option Nat) (b : Nat) : va_up (wPF cyI cyJ cyZ cyO28f5b cyOff204 S) a (.inr (5, [.int (S.O_DearVotesModel.f_people a), .int (S.O_DearVotesModel.f_questions a), .int (S.O_DearVotesModel.f_projects a), .int (S.O_DearVotesModel.f_seed a), va_rf (S.O_DearVotesModel.f_budgets a), va_rf (S.O_DearVotesModel.f_isHere a), va_rf (S.O_DearVotesModel.f_votes a), va_rf (S.O_DearVotesModel.f_worths a), va_rf (S.O_DearVotesModel.f_gifts a), va_rf v, .int (S.O_DearVotesModel.f_rounds a), .int (S.O_DearVotesModel.f_changes a), .int (S.O_DearVotesModel.f_ended a), .int (S.O_DearVotesModel.f_ring a), va_rf (S.O_DearVotesModel.f_cheapest a), va_rf (S.O_DearVotesModel.f_may a), va_rf (S.O_DearVotesModel.f_bestVoices a), va_rf (S.O_DearVotesModel.f_tryVoices a), .int (S.O_DearVotesModel.f_bestGain a), .int (S.O_DearVotesModel.f_bestCost a), .int (S.O_DearVotesModel.f_hasBest a), va_rf (S.O_DearVotesModel.f_past a), va_rf (S.O_DearVotesModel.f_parts a), va_rf (S.O_DearVotesModel.f_rests a), .long (S.O_DearVotesModel.f_h a)])) b = wPF cyI cyJ cyZ cyO28f5b cyOff204 { S with O_DearVotesModel := { S.O_DearVotesModel with f_bonds := va_up S.O_DearVotesModel.f_bonds a v } } b := by by_cases hb : b = a <;> first | (simp only [wPF, va_up_ne _ _ hb]; done) | (simp only [wPF, va_up, if_neg hb]; done) | simp [wPF, va_re, va_up, va_rf, hb, h]
theorem wPu_O_DearVotesModel_f_bonds (cyI : ClassId) (cyJ : ClassId) (cyZ : ClassId) (cyO28f5b : ClassId) (cyOff204 : ClassId) (X : va_W) (S : wPS) {A : Nat → Prop} {a k : Nat} (hD : va_D A (X ++ va_pl S.L (wPF cyI cyJ cyZ cyO28f5b cyOff204 S))) (hL : a ∈ S.L) (h : S.K a = 5) (hk : (X ++ va_pl S.L (wPF cyI cyJ cyZ cyO28f5b cyOff204 S))[k]? = some (a, wPF cyI cyJ cyZ cyO28f5b cyOff204 S a)) (v : Option Nat) : (X ++ va_pl S.L (wPF cyI cyJ cyZ cyO28f5b cyOff204 S)).set k (a, .inr (5, [.int (S.O_DearVotesModel.f_people a), .int (S.O_DearVotesModel.f_questions a), .int (S.O_DearVotesModel.f_projects a), .int (S.O_DearVotesModel.f_seed a), va_rf (S.O_DearVotesModel.f_budgets a), va_rf (S.O_DearVotesModel.f_isHere a), va_rf (S.O_DearVotesModel.f_votes a), va_rf (S.O_DearVotesModel.f_worths a), va_rf (S.O_DearVotesModel.f_gifts a), va_rf v, .int (S.O_DearVotesModel.f_rounds a), .int (S.O_DearVotesModel.f_changes a), .int (S.O_DearVotesModel.f_ended a), .int (S.O_DearVotesModel.f_ring a), va_rf (S.O_DearVotesModel.f_cheapest a), va_rf (S.O_DearVotesModel.f_may a), va_rf (S.O_DearVotesModel.f_bestVoices a), va_rf (S.O_DearVotesModel.f_tryVoices a), .int (S.O_DearVotesModel.f_bestGain a), .int (S.O_DearVotesModel.f_bestCost a), .int (S.O_DearVotesModel.f_hasBest a), va_rf (S.O_DearVotesModel.f_past a), va_rf (S.O_DearVotesModel.f_parts a), va_rf (S.O_DearVotesModel.f_rests a), .long (S.O_DearVotesModel.f_h a)])) = X ++ va_pl S.L (wPF cyI cyJ cyZ cyO28f5b cyOff204 { S with O_DearVotesModel := { S.O_DearVotesModel with f_bonds := va_up S.O_DearVotesModel.f_bonds a v } }) := by
  rw [va_pl_set hD hL hk]
  exact congrArg (fun l => X ++ l) (va_pl_congr (wSt_O_DearVotesModel_f_bonds cyI cyJ cyZ cyO28f5b cyOff204 S h v))
theorem wSt_O_DearVotesModel_f_rounds (cyI : ClassId) (cyJ : ClassId) (cyZ : ClassId) (cyO28f5b : ClassId) (cyOff204 : ClassId) (S : wPS) {a : Nat} (h : S.K a = 5) (v : Int32) (b : Nat) : va_up (wPF cyI cyJ cyZ cyO28f5b cyOff204 S) a (.inr (5, [.int (S.O_DearVotesModel.f_people a), .int (S.O_DearVotesModel.f_questions a), .int (S.O_DearVotesModel.f_projects a), .int (S.O_DearVotesModel.f_seed a), va_rf (S.O_DearVotesModel.f_budgets a), va_rf (S.O_DearVotesModel.f_isHere a), va_rf (S.O_DearVotesModel.f_votes a), va_rf (S.O_DearVotesModel.f_worths a), va_rf (S.O_DearVotesModel.f_gifts a), va_rf (S.O_DearVotesModel.f_bonds a), .int v, .int (S.O_DearVotesModel.f_changes a), .int (S.O_DearVotesModel.f_ended a), .int (S.O_DearVotesModel.f_ring a), va_rf (S.O_DearVotesModel.f_cheapest a), va_rf (S.O_DearVotesModel.f_may a), va_rf (S.O_DearVotesModel.f_bestVoices a), va_rf (S.O_DearVotesModel.f_tryVoices a), .int (S.O_DearVotesModel.f_bestGain a), .int (S.O_DearVotesModel.f_bestCost a), .int (S.O_DearVotesModel.f_hasBest a), va_rf (S.O_DearVotesModel.f_past a), va_rf (S.O_DearVotesModel.f_parts a), va_rf (S.O_DearVotesModel.f_rests a), .long (S.O_DearVotesModel.f_h a)])) b = wPF cyI cyJ cyZ cyO28f5b cyOff204 { S with O_DearVotesModel := { S.O_DearVotesModel with f_rounds := va_up S.O_DearVotesModel.f_rounds a v } } b := by by_cases hb : b = a <;> first | (simp only [wPF, va_up_ne _ _ hb]; done) | (simp only [wPF, va_up, if_neg hb]; done) | simp [wPF, va_re, va_up, va_rf, hb, h]
theorem wPu_O_DearVotesModel_f_rounds (cyI : ClassId) (cyJ : ClassId) (cyZ : ClassId) (cyO28f5b : ClassId) (cyOff204 : ClassId) (X : va_W) (S : wPS) {A : Nat → Prop} {a k : Nat} (hD : va_D A (X ++ va_pl S.L (wPF cyI cyJ cyZ cyO28f5b cyOff204 S))) (hL : a ∈ S.L) (h : S.K a = 5) (hk : (X ++ va_pl S.L (wPF cyI cyJ cyZ cyO28f5b cyOff204 S))[k]? = some (a, wPF cyI cyJ cyZ cyO28f5b cyOff204 S a)) (v : Int32) : (X ++ va_pl S.L (wPF cyI cyJ cyZ cyO28f5b cyOff204 S)).set k (a, .inr (5, [.int (S.O_DearVotesModel.f_people a), .int (S.O_DearVotesModel.f_questions a), .int (S.O_DearVotesModel.f_projects a), .int (S.O_DearVotesModel.f_seed a), va_rf (S.O_DearVotesModel.f_budgets a), va_rf (S.O_DearVotesModel.f_isHere a), va_rf (S.O_DearVotesModel.f_votes a), va_rf (S.O_DearVotesModel.f_worths a), va_rf (S.O_DearVotesModel.f_gifts a), va_rf (S.O_DearVotesModel.f_bonds a), .int v, .int (S.O_DearVotesModel.f_changes a), .int (S.O_DearVotesModel.f_ended a), .int (S.O_DearVotesModel.f_ring a), va_rf (S.O_DearVotesModel.f_cheapest a), va_rf (S.O_DearVotesModel.f_may a), va_rf (S.O_DearVotesModel.f_bestVoices a), va_rf (S.O_DearVotesModel.f_tryVoices a), .int (S.O_DearVotesModel.f_bestGain a), .int (S.O_DearVotesModel.f_bestCost a), .int (S.O_DearVotesModel.f_hasBest a), va_rf (S.O_DearVotesModel.f_past a), va_rf (S.O_DearVotesModel.f_parts a), va_rf (S.O_DearVotesModel.f_rests a), .long (S.O_DearVotesModel.f_h a)])) = X ++ va_pl S.L (wPF cyI cyJ cyZ cyO28f5b cyOff204 { S with O_DearVotesModel := { S.O_DearVotesModel with f_rounds := va_up S.O_DearVotesModel.f_rounds a v } }) := by
  rw [va_pl_set hD hL hk]
  exact congrArg (fun l => X ++ l) (va_pl_congr (wSt_O_DearVotesModel_f_rounds cyI cyJ cyZ cyO28f5b cyOff204 S h v))
theorem wSt_O_DearVotesModel_f_changes (cyI : ClassId) (cyJ : ClassId) (cyZ : ClassId) (cyO28f5b : ClassId) (cyOff204 : ClassId) (S : wPS) {a : Nat} (h : S.K a = 5) (v : Int32) (b : Nat) : va_up (wPF cyI cyJ cyZ cyO28f5b cyOff204 S) a (.inr (5, [.int (S.O_DearVotesModel.f_people a), .int (S.O_DearVotesModel.f_questions a), .int (S.O_DearVotesModel.f_projects a), .int (S.O_DearVotesModel.f_seed a), va_rf (S.O_DearVotesModel.f_budgets a), va_rf (S.O_DearVotesModel.f_isHere a), va_rf (S.O_DearVotesModel.f_votes a), va_rf (S.O_DearVotesModel.f_worths a), va_rf (S.O_DearVotesModel.f_gifts a), va_rf (S.O_DearVotesModel.f_bonds a), .int (S.O_DearVotesModel.f_rounds a), .int v, .int (S.O_DearVotesModel.f_ended a), .int (S.O_DearVotesModel.f_ring a), va_rf (S.O_DearVotesModel.f_cheapest a), va_rf (S.O_DearVotesModel.f_may a), va_rf (S.O_DearVotesModel.f_bestVoices a), va_rf (S.O_DearVotesModel.f_tryVoices a), .int (S.O_DearVotesModel.f_bestGain a), .int (S.O_DearVotesModel.f_bestCost a), .int (S.O_DearVotesModel.f_hasBest a), va_rf (S.O_DearVotesModel.f_past a), va_rf (S.O_DearVotesModel.f_parts a), va_rf (S.O_DearVotesModel.f_rests a), .long (S.O_DearVotesModel.f_h a)])) b = wPF cyI cyJ cyZ cyO28f5b cyOff204 { S with O_DearVotesModel := { S.O_DearVotesModel with f_changes := va_up S.O_DearVotesModel.f_changes a v } } b := by by_cases hb : b = a <;> first | (simp only [wPF, va_up_ne _ _ hb]; done) | (simp only [wPF, va_up, if_neg hb]; done) | simp [wPF, va_re, va_up, va_rf, hb, h]
theorem wPu_O_DearVotesModel_f_changes (cyI : ClassId) (cyJ : ClassId) (cyZ : ClassId) (cyO28f5b : ClassId) (cyOff204 : ClassId) (X : va_W) (S : wPS) {A : Nat → Prop} {a k : Nat} (hD : va_D A (X ++ va_pl S.L (wPF cyI cyJ cyZ cyO28f5b cyOff204 S))) (hL : a ∈ S.L) (h : S.K a = 5) (hk : (X ++ va_pl S.L (wPF cyI cyJ cyZ cyO28f5b cyOff204 S))[k]? = some (a, wPF cyI cyJ cyZ cyO28f5b cyOff204 S a)) (v : Int32) : (X ++ va_pl S.L (wPF cyI cyJ cyZ cyO28f5b cyOff204 S)).set k (a, .inr (5, [.int (S.O_DearVotesModel.f_people a), .int (S.O_DearVotesModel.f_questions a), .int (S.O_DearVotesModel.f_projects a), .int (S.O_DearVotesModel.f_seed a), va_rf (S.O_DearVotesModel.f_budgets a), va_rf (S.O_DearVotesModel.f_isHere a), va_rf (S.O_DearVotesModel.f_votes a), va_rf (S.O_DearVotesModel.f_worths a), va_rf (S.O_DearVotesModel.f_gifts a), va_rf (S.O_DearVotesModel.f_bonds a), .int (S.O_DearVotesModel.f_rounds a), .int v, .int (S.O_DearVotesModel.f_ended a), .int (S.O_DearVotesModel.f_ring a), va_rf (S.O_DearVotesModel.f_cheapest a), va_rf (S.O_DearVotesModel.f_may a), va_rf (S.O_DearVotesModel.f_bestVoices a), va_rf (S.O_DearVotesModel.f_tryVoices a), .int (S.O_DearVotesModel.f_bestGain a), .int (S.O_DearVotesModel.f_bestCost a), .int (S.O_DearVotesModel.f_hasBest a), va_rf (S.O_DearVotesModel.f_past a), va_rf (S.O_DearVotesModel.f_parts a), va_rf (S.O_DearVotesModel.f_rests a), .long (S.O_DearVotesModel.f_h a)])) = X ++ va_pl S.L (wPF cyI cyJ cyZ cyO28f5b cyOff204 { S with O_DearVotesModel := { S.O_DearVotesModel with f_changes := va_up S.O_DearVotesModel.f_changes a v } }) := by
  rw [va_pl_set hD hL hk]
  exact congrArg (fun l => X ++ l) (va_pl_congr (wSt_O_DearVotesModel_f_changes cyI cyJ cyZ cyO28f5b cyOff204 S h v))
theorem wSt_O_DearVotesModel_f_ended (cyI : ClassId) (cyJ : ClassId) (cyZ : ClassId) (cyO28f5b : ClassId) (cyOff204 : ClassId) (S : wPS) {a : Nat} (h : S.K a = 5) (v : Int32) (b : Nat) : va_up (wPF cyI cyJ cyZ cyO28f5b cyOff204 S) a (.inr (5, [.int (S.O_DearVotesModel.f_people a), .int (S.O_DearVotesModel.f_questions a), .int (S.O_DearVotesModel.f_projects a), .int (S.O_DearVotesModel.f_seed a), va_rf (S.O_DearVotesModel.f_budgets a), va_rf (S.O_DearVotesModel.f_isHere a), va_rf (S.O_DearVotesModel.f_votes a), va_rf (S.O_DearVotesModel.f_worths a), va_rf (S.O_DearVotesModel.f_gifts a), va_rf (S.O_DearVotesModel.f_bonds a), .int (S.O_DearVotesModel.f_rounds a), .int (S.O_DearVotesModel.f_changes a), .int v, .int (S.O_DearVotesModel.f_ring a), va_rf (S.O_DearVotesModel.f_cheapest a), va_rf (S.O_DearVotesModel.f_may a), va_rf (S.O_DearVotesModel.f_bestVoices a), va_rf (S.O_DearVotesModel.f_tryVoices a), .int (S.O_DearVotesModel.f_bestGain a), .int (S.O_DearVotesModel.f_bestCost a), .int (S.O_DearVotesModel.f_hasBest a), va_rf (S.O_DearVotesModel.f_past a), va_rf (S.O_DearVotesModel.f_parts a), va_rf (S.O_DearVotesModel.f_rests a), .long (S.O_DearVotesModel.f_h a)])) b = wPF cyI cyJ cyZ cyO28f5b cyOff204 { S with O_DearVotesModel := { S.O_DearVotesModel with f_ended := va_up S.O_DearVotesModel.f_ended a v } } b := by by_cases hb : b = a <;> first | (simp only [wPF, va_up_ne _ _ hb]; done) | (simp only [wPF, va_up, if_neg hb]; done) | simp [wPF, va_re, va_up, va_rf, hb, h]
theorem wPu_O_DearVotesModel_f_ended (cyI : ClassId) (cyJ : ClassId) (cyZ : ClassId) (cyO28f5b : ClassId) (cyOff204 : ClassId) (X : va_W) (S : wPS) {A : Nat → Prop} {a k : Nat} (hD : va_D A (X ++ va_pl S.L (wPF cyI cyJ cyZ cyO28f5b cyOff204 S))) (hL : a ∈ S.L) (h : S.K a = 5) (hk : (X ++ va_pl S.L (wPF cyI cyJ cyZ cyO28f5b cyOff204 S))[k]? = some (a, wPF cyI cyJ cyZ cyO28f5b cyOff204 S a)) (v : Int32) : (X ++ va_pl S.L (wPF cyI cyJ cyZ cyO28f5b cyOff204 S)).set k (a, .inr (5, [.int (S.O_DearVotesModel.f_people a), .int (S.O_DearVotesModel.f_questions a), .int (S.O_DearVotesModel.f_projects a), .int (S.O_DearVotesModel.f_seed a), va_rf (S.O_DearVotesModel.f_budgets a), va_rf (S.O_DearVotesModel.f_isHere a), va_rf (S.O_DearVotesModel.f_votes a), va_rf (S.O_DearVotesModel.f_worths a), va_rf (S.O_DearVotesModel.f_gifts a), va_rf (S.O_DearVotesModel.f_bonds a), .int (S.O_DearVotesModel.f_rounds a), .int (S.O_DearVotesModel.f_changes a), .int v, .int (S.O_DearVotesModel.f_ring a), va_rf (S.O_DearVotesModel.f_cheapest a), va_rf (S.O_DearVotesModel.f_may a), va_rf (S.O_DearVotesModel.f_bestVoices a), va_rf (S.O_DearVotesModel.f_tryVoices a), .int (S.O_DearVotesModel.f_bestGain a), .int (S.O_DearVotesModel.f_bestCost a), .int (S.O_DearVotesModel.f_hasBest a), va_rf (S.O_DearVotesModel.f_past a), va_rf (S.O_DearVotesModel.f_parts a), va_rf (S.O_DearVotesModel.f_rests a), .long (S.O_DearVotesModel.f_h a)])) = X ++ va_pl S.L (wPF cyI cyJ cyZ cyO28f5b cyOff204 { S with O_DearVotesModel := { S.O_DearVotesModel with f_ended := va_up S.O_DearVotesModel.f_ended a v } }) := by
  rw [va_pl_set hD hL hk]
  exact congrArg (fun l => X ++ l) (va_pl_congr (wSt_O_DearVotesModel_f_ended cyI cyJ cyZ cyO28f5b cyOff204 S h v))
theorem wSt_O_DearVotesModel_f_ring (cyI : ClassId) (cyJ : ClassId) (cyZ : ClassId) (cyO28f5b : ClassId) (cyOff204 : ClassId) (S : wPS) {a : Nat} (h : S.K a = 5) (v : Int32) (b : Nat) : va_up (wPF cyI cyJ cyZ cyO28f5b cyOff204 S) a (.inr (5, [.int (S.O_DearVotesModel.f_people a), .int (S.O_DearVotesModel.f_questions a), .int (S.O_DearVotesModel.f_projects a), .int (S.O_DearVotesModel.f_seed a), va_rf (S.O_DearVotesModel.f_budgets a), va_rf (S.O_DearVotesModel.f_isHere a), va_rf (S.O_DearVotesModel.f_votes a), va_rf (S.O_DearVotesModel.f_worths a), va_rf (S.O_DearVotesModel.f_gifts a), va_rf (S.O_DearVotesModel.f_bonds a), .int (S.O_DearVotesModel.f_rounds a), .int (S.O_DearVotesModel.f_changes a), .int (S.O_DearVotesModel.f_ended a), .int v, va_rf (S.O_DearVotesModel.f_cheapest a), va_rf (S.O_DearVotesModel.f_may a), va_rf (S.O_DearVotesModel.f_bestVoices a), va_rf (S.O_DearVotesModel.f_tryVoices a), .int (S.O_DearVotesModel.f_bestGain a), .int (S.O_DearVotesModel.f_bestCost a), .int (S.O_DearVotesModel.f_hasBest a), va_rf (S.O_DearVotesModel.f_past a), va_rf (S.O_DearVotesModel.f_parts a), va_rf (S.O_DearVotesModel.f_rests a), .long (S.O_DearVotesModel.f_h a)])) b = wPF cyI cyJ cyZ cyO28f5b cyOff204 { S with O_DearVotesModel := { S.O_DearVotesModel with f_ring := va_up S.O_DearVotesModel.f_ring a v } } b := by by_cases hb : b = a <;> first | (simp only [wPF, va_up_ne _ _ hb]; done) | (simp only [wPF, va_up, if_neg hb]; done) | simp [wPF, va_re, va_up, va_rf, hb, h]
theorem wPu_O_DearVotesModel_f_ring (cyI : ClassId) (cyJ : ClassId) (cyZ : ClassId) (cyO28f5b : ClassId) (cyOff204 : ClassId) (X : va_W) (S : wPS) {A : Nat → Prop} {a k : Nat} (hD : va_D A (X ++ va_pl S.L (wPF cyI cyJ cyZ cyO28f5b cyOff204 S))) (hL : a ∈ S.L) (h : S.K a = 5) (hk : (X ++ va_pl S.L (wPF cyI cyJ cyZ cyO28f5b cyOff204 S))[k]? = some (a, wPF cyI cyJ cyZ cyO28f5b cyOff204 S a)) (v : Int32) : (X ++ va_pl S.L (wPF cyI cyJ cyZ cyO28f5b cyOff204 S)).set k (a, .inr (5, [.int (S.O_DearVotesModel.f_people a), .int (S.O_DearVotesModel.f_questions a), .int (S.O_DearVotesModel.f_projects a), .int (S.O_DearVotesModel.f_seed a), va_rf (S.O_DearVotesModel.f_budgets a), va_rf (S.O_DearVotesModel.f_isHere a), va_rf (S.O_DearVotesModel.f_votes a), va_rf (S.O_DearVotesModel.f_worths a), va_rf (S.O_DearVotesModel.f_gifts a), va_rf (S.O_DearVotesModel.f_bonds a), .int (S.O_DearVotesModel.f_rounds a), .int (S.O_DearVotesModel.f_changes a), .int (S.O_DearVotesModel.f_ended a), .int v, va_rf (S.O_DearVotesModel.f_cheapest a), va_rf (S.O_DearVotesModel.f_may a), va_rf (S.O_DearVotesModel.f_bestVoices a), va_rf (S.O_DearVotesModel.f_tryVoices a), .int (S.O_DearVotesModel.f_bestGain a), .int (S.O_DearVotesModel.f_bestCost a), .int (S.O_DearVotesModel.f_hasBest a), va_rf (S.O_DearVotesModel.f_past a), va_rf (S.O_DearVotesModel.f_parts a), va_rf (S.O_DearVotesModel.f_rests a), .long (S.O_DearVotesModel.f_h a)])) = X ++ va_pl S.L (wPF cyI cyJ cyZ cyO28f5b cyOff204 { S with O_DearVotesModel := { S.O_DearVotesModel with f_ring := va_up S.O_DearVotesModel.f_ring a v } }) := by
  rw [va_pl_set hD hL hk]
  exact congrArg (fun l => X ++ l) (va_pl_congr (wSt_O_DearVotesModel_f_ring cyI cyJ cyZ cyO28f5b cyOff204 S h v))
theorem wSt_O_DearVotesModel_f_cheapest (cyI : ClassId) (cyJ : ClassId) (cyZ : ClassId) (cyO28f5b : ClassId) (cyOff204 : ClassId) (S : wPS) {a : Nat} (h : S.K a = 5) (v : Option Nat) (b : Nat) : va_up (wPF cyI cyJ cyZ cyO28f5b cyOff204 S) a (.inr (5, [.int (S.O_DearVotesModel.f_people a), .int (S.O_DearVotesModel.f_questions a), .int (S.O_DearVotesModel.f_projects a), .int (S.O_DearVotesModel.f_seed a), va_rf (S.O_DearVotesModel.f_budgets a), va_rf (S.O_DearVotesModel.f_isHere a), va_rf (S.O_DearVotesModel.f_votes a), va_rf (S.O_DearVotesModel.f_worths a), va_rf (S.O_DearVotesModel.f_gifts a), va_rf (S.O_DearVotesModel.f_bonds a), .int (S.O_DearVotesModel.f_rounds a), .int (S.O_DearVotesModel.f_changes a), .int (S.O_DearVotesModel.f_ended a), .int (S.O_DearVotesModel.f_ring a), va_rf v, va_rf (S.O_DearVotesModel.f_may a), va_rf (S.O_DearVotesModel.f_bestVoices a), va_rf (S.O_DearVotesModel.f_tryVoices a), .int (S.O_DearVotesModel.f_bestGain a), .int (S.O_DearVotesModel.f_bestCost a), .int (S.O_DearVotesModel.f_hasBest a), va_rf (S.O_DearVotesModel.f_past a), va_rf (S.O_DearVotesModel.f_parts a), va_rf (S.O_DearVotesModel.f_rests a), .long (S.O_DearVotesModel.f_h a)])) b = wPF cyI cyJ cyZ cyO28f5b cyOff204 { S with O_DearVotesModel := { S.O_DearVotesModel with f_cheapest := va_up S.O_DearVotesModel.f_cheapest a v } } b := by by_cases hb : b = a <;> first | (simp only [wPF, va_up_ne _ _ hb]; done) | (simp only [wPF, va_up, if_neg hb]; done) | simp [wPF, va_re, va_up, va_rf, hb, h]
theorem wPu_O_DearVotesModel_f_cheapest (cyI : ClassId) (cyJ : ClassId) (cyZ : ClassId) (cyO28f5b : ClassId) (cyOff204 : ClassId) (X : va_W) (S : wPS) {A : Nat → Prop} {a k : Nat} (hD : va_D A (X ++ va_pl S.L (wPF cyI cyJ cyZ cyO28f5b cyOff204 S))) (hL : a ∈ S.L) (h : S.K a = 5) (hk : (X ++ va_pl S.L (wPF cyI cyJ cyZ cyO28f5b cyOff204 S))[k]? = some (a, wPF cyI cyJ cyZ cyO28f5b cyOff204 S a)) (v : Option Nat) : (X ++ va_pl S.L (wPF cyI cyJ cyZ cyO28f5b cyOff204 S)).set k (a, .inr (5, [.int (S.O_DearVotesModel.f_people a), .int (S.O_DearVotesModel.f_questions a), .int (S.O_DearVotesModel.f_projects a), .int (S.O_DearVotesModel.f_seed a), va_rf (S.O_DearVotesModel.f_budgets a), va_rf (S.O_DearVotesModel.f_isHere a), va_rf (S.O_DearVotesModel.f_votes a), va_rf (S.O_DearVotesModel.f_worths a), va_rf (S.O_DearVotesModel.f_gifts a), va_rf (S.O_DearVotesModel.f_bonds a), .int (S.O_DearVotesModel.f_rounds a), .int (S.O_DearVotesModel.f_changes a), .int (S.O_DearVotesModel.f_ended a), .int (S.O_DearVotesModel.f_ring a), va_rf v, va_rf (S.O_DearVotesModel.f_may a), va_rf (S.O_DearVotesModel.f_bestVoices a), va_rf (S.O_DearVotesModel.f_tryVoices a), .int (S.O_DearVotesModel.f_bestGain a), .int (S.O_DearVotesModel.f_bestCost a), .int (S.O_DearVotesModel.f_hasBest a), va_rf (S.O_DearVotesModel.f_past a), va_rf (S.O_DearVotesModel.f_parts a), va_rf (S.O_DearVotesModel.f_rests a), .long (S.O_DearVotesModel.f_h a)])) = X ++ va_pl S.L (wPF cyI cyJ cyZ cyO28f5b cyOff204 { S with O_DearVotesModel := { S.O_DearVotesModel with f_cheapest := va_up S.O_DearVotesModel.f_cheapest a v } }) := by
  rw [va_pl_set hD hL hk]
  exact congrArg (fun l => X ++ l) (va_pl_congr (wSt_O_DearVotesModel_f_cheapest cyI cyJ cyZ cyO28f5b cyOff204 S h v))
theorem wSt_O_DearVotesModel_f_may (cyI : ClassId) (cyJ : ClassId) (cyZ : ClassId) (cyO28f5b : ClassId) (cyOff204 : ClassId) (S : wPS) {a : Nat} (h : S.K a = 5) (v : Option Nat) (b : Nat) : va_up (wPF cyI cyJ cyZ cyO28f5b cyOff204 S) a (.inr (5, [.int (S.O_DearVotesModel.f_people a), .int (S.O_DearVotesModel.f_questions a), .int (S.O_DearVotesModel.f_projects a), .int (S.O_DearVotesModel.f_seed a), va_rf (S.O_DearVotesModel.f_budgets a), va_rf (S.O_DearVotesModel.f_isHere a), va_rf (S.O_DearVotesModel.f_votes a), va_rf (S.O_DearVotesModel.f_worths a), va_rf (S.O_DearVotesModel.f_gifts a), va_rf (S.O_DearVotesModel.f_bonds a), .int (S.O_DearVotesModel.f_rounds a), .int (S.O_DearVotesModel.f_changes a), .int (S.O_DearVotesModel.f_ended a), .int (S.O_DearVotesModel.f_ring a), va_rf (S.O_DearVotesModel.f_cheapest a), va_rf v, va_rf (S.O_DearVotesModel.f_bestVoices a), va_rf (S.O_DearVotesModel.f_tryVoices a), .int (S.O_DearVotesModel.f_bestGain a), .int (S.O_DearVotesModel.f_bestCost a), .int (S.O_DearVotesModel.f_hasBest a), va_rf (S.O_DearVotesModel.f_past a), va_rf (S.O_DearVotesModel.f_parts a), va_rf (S.O_DearVotesModel.f_rests a), .long (S.O_DearVotesModel.f_h a)])) b = wPF cyI cyJ cyZ cyO28f5b cyOff204 { S with O_DearVotesModel := { S.O_DearVotesModel with f_may := va_up S.O_DearVotesModel.f_may a v } } b := by by_cases hb : b = a <;> first | (simp only [wPF, va_up_ne _ _ hb]; done) | (simp only [wPF, va_up, if_neg hb]; done) | simp [wPF, va_re, va_up, va_rf, hb, h]
theorem wPu_O_DearVotesModel_f_may (cyI : ClassId) (cyJ : ClassId) (cyZ : ClassId) (cyO28f5b : ClassId) (cyOff204 : ClassId) (X : va_W) (S : wPS) {A : Nat → Prop} {a k : Nat} (hD : va_D A (X ++ va_pl S.L (wPF cyI cyJ cyZ cyO28f5b cyOff204 S))) (hL : a ∈ S.L) (h : S.K a = 5) (hk : (X ++ va_pl S.L (wPF cyI cyJ cyZ cyO28f5b cyOff204 S))[k]? = some (a, wPF cyI cyJ cyZ cyO28f5b cyOff204 S a)) (v : Option Nat) : (X ++ va_pl S.L (wPF cyI cyJ cyZ cyO28f5b cyOff204 S)).set k (a, .inr (5, [.int (S.O_DearVotesModel.f_people a), .int (S.O_DearVotesModel.f_questions a), .int (S.O_DearVotesModel.f_projects a), .int (S.O_DearVotesModel.f_seed a), va_rf (S.O_DearVotesModel.f_budgets a), va_rf (S.O_DearVotesModel.f_isHere a), va_rf (S.O_DearVotesModel.f_votes a), va_rf (S.O_DearVotesModel.f_worths a), va_rf (S.O_DearVotesModel.f_gifts a), va_rf (S.O_DearVotesModel.f_bonds a), .int (S.O_DearVotesModel.f_rounds a), .int (S.O_DearVotesModel.f_changes a), .int (S.O_DearVotesModel.f_ended a), .int (S.O_DearVotesModel.f_ring a), va_rf (S.O_DearVotesModel.f_cheapest a), va_rf v, va_rf (S.O_DearVotesModel.f_bestVoices a), va_rf (S.O_DearVotesModel.f_tryVoices a), .int (S.O_DearVotesModel.f_bestGain a), .int (S.O_DearVotesModel.f_bestCost a), .int (S.O_DearVotesModel.f_hasBest a), va_rf (S.O_DearVotesModel.f_past a), va_rf (S.O_DearVotesModel.f_parts a), va_rf (S.O_DearVotesModel.f_rests a), .long (S.O_DearVotesModel.f_h a)])) = X ++ va_pl S.L (wPF cyI cyJ cyZ cyO28f5b cyOff204 { S with O_DearVotesModel := { S.O_DearVotesModel with f_may := va_up S.O_DearVotesModel.f_may a v } }) := by
  rw [va_pl_set hD hL hk]
  exact congrArg (fun l => X ++ l) (va_pl_congr (wSt_O_DearVotesModel_f_may cyI cyJ cyZ cyO28f5b cyOff204 S h v))
theorem wSt_O_DearVotesModel_f_bestVoices (cyI : ClassId) (cyJ : ClassId) (cyZ : ClassId) (cyO28f5b : ClassId) (cyOff204 : ClassId) (S : wPS) {a : Nat} (h : S.K a = 5) (v : Option Nat) (b : Nat) : va_up (wPF cyI cyJ cyZ cyO28f5b cyOff204 S) a (.inr (5, [.int (S.O_DearVotesModel.f_people a), .int (S.O_DearVotesModel.f_questions a), .int (S.O_DearVotesModel.f_projects a), .int (S.O_DearVotesModel.f_seed a), va_rf (S.O_DearVotesModel.f_budgets a), va_rf (S.O_DearVotesModel.f_isHere a), va_rf (S.O_DearVotesModel.f_votes a), va_rf (S.O_DearVotesModel.f_worths a), va_rf (S.O_DearVotesModel.f_gifts a), va_rf (S.O_DearVotesModel.f_bonds a), .int (S.O_DearVotesModel.f_rounds a), .int (S.O_DearVotesModel.f_changes a), .int (S.O_DearVotesModel.f_ended a), .int (S.O_DearVotesModel.f_ring a), va_rf (S.O_DearVotesModel.f_cheapest a), va_rf (S.O_DearVotesModel.f_may a), va_rf v, va_rf (S.O_DearVotesModel.f_tryVoices a), .int (S.O_DearVotesModel.f_bestGain a), .int (S.O_DearVotesModel.f_bestCost a), .int (S.O_DearVotesModel.f_hasBest a), va_rf (S.O_DearVotesModel.f_past a), va_rf (S.O_DearVotesModel.f_parts a), va_rf (S.O_DearVotesModel.f_rests a), .long (S.O_DearVotesModel.f_h a)])) b = wPF cyI cyJ cyZ cyO28f5b cyOff204 { S with O_DearVotesModel := { S.O_DearVotesModel with f_bestVoices := va_up S.O_DearVotesModel.f_bestVoices a v } } b := by by_cases hb : b = a <;> first | (simp only [wPF, va_up_ne _ _ hb]; done) | (simp only [wPF, va_up, if_neg hb]; done) | simp [wPF, va_re, va_up, va_rf, hb, h]
theorem wPu_O_DearVotesModel_f_bestVoices (cyI : ClassId) (cyJ : ClassId) (cyZ : ClassId) (cyO28f5b : ClassId) (cyOff204 : ClassId) (X : va_W) (S : wPS) {A : Nat → Prop} {a k : Nat} (hD : va_D A (X ++ va_pl S.L (wPF cyI cyJ cyZ cyO28f5b cyOff204 S))) (hL : a ∈ S.L) (h : S.K a = 5) (hk : (X ++ va_pl S.L (wPF cyI cyJ cyZ cyO28f5b cyOff204 S))[k]? = some (a, wPF cyI cyJ cyZ cyO28f5b cyOff204 S a)) (v : Option Nat) : (X ++ va_pl S.L (wPF cyI cyJ cyZ cyO28f5b cyOff204 S)).set k (a, .inr (5, [.int (S.O_DearVotesModel.f_people a), .int (S.O_DearVotesModel.f_questions a), .int (S.O_DearVotesModel.f_projects a), .int (S.O_DearVotesModel.f_seed a), va_rf (S.O_DearVotesModel.f_budgets a), va_rf (S.O_DearVotesModel.f_isHere a), va_rf (S.O_DearVotesModel.f_votes a), va_rf (S.O_DearVotesModel.f_worths a), va_rf (S.O_DearVotesModel.f_gifts a), va_rf (S.O_DearVotesModel.f_bonds a), .int (S.O_DearVotesModel.f_rounds a), .int (S.O_DearVotesModel.f_changes a), .int (S.O_DearVotesModel.f_ended a), .int (S.O_DearVotesModel.f_ring a), va_rf (S.O_DearVotesModel.f_cheapest a), va_rf (S.O_DearVotesModel.f_may a), va_rf v, va_rf (S.O_DearVotesModel.f_tryVoices a), .int (S.O_DearVotesModel.f_bestGain a), .int (S.O_DearVotesModel.f_bestCost a), .int (S.O_DearVotesModel.f_hasBest a), va_rf (S.O_DearVotesModel.f_past a), va_rf (S.O_DearVotesModel.f_parts a), va_rf (S.O_DearVotesModel.f_rests a), .long (S.O_DearVotesModel.f_h a)])) = X ++ va_pl S.L (wPF cyI cyJ cyZ cyO28f5b cyOff204 { S with O_DearVotesModel := { S.O_DearVotesModel with f_bestVoices := va_up S.O_DearVotesModel.f_bestVoices a v } }) := by
  rw [va_pl_set hD hL hk]
  exact congrArg (fun l => X ++ l) (va_pl_congr (wSt_O_DearVotesModel_f_bestVoices cyI cyJ cyZ cyO28f5b cyOff204 S h v))
theorem wSt_O_DearVotesModel_f_tryVoices (cyI : ClassId) (cyJ : ClassId) (cyZ : ClassId) (cyO28f5b : ClassId) (cyOff204 : ClassId) (S : wPS) {a : Nat} (h : S.K a = 5) (v : Option Nat) (b : Nat) : va_up (wPF cyI cyJ cyZ cyO28f5b cyOff204 S) a (.inr (5, [.int (S.O_DearVotesModel.f_people a), .int (S.O_DearVotesModel.f_questions a), .int (S.O_DearVotesModel.f_projects a), .int (S.O_DearVotesModel.f_seed a), va_rf (S.O_DearVotesModel.f_budgets a), va_rf (S.O_DearVotesModel.f_isHere a), va_rf (S.O_DearVotesModel.f_votes a), va_rf (S.O_DearVotesModel.f_worths a), va_rf (S.O_DearVotesModel.f_gifts a), va_rf (S.O_DearVotesModel.f_bonds a), .int (S.O_DearVotesModel.f_rounds a), .int (S.O_DearVotesModel.f_changes a), .int (S.O_DearVotesModel.f_ended a), .int (S.O_DearVotesModel.f_ring a), va_rf (S.O_DearVotesModel.f_cheapest a), va_rf (S.O_DearVotesModel.f_may a), va_rf (S.O_DearVotesModel.f_bestVoices a), va_rf v, .int (S.O_DearVotesModel.f_bestGain a), .int (S.O_DearVotesModel.f_bestCost a), .int (S.O_DearVotesModel.f_hasBest a), va_rf (S.O_DearVotesModel.f_past a), va_rf (S.O_DearVotesModel.f_parts a), va_rf (S.O_DearVotesModel.f_rests a), .long (S.O_DearVotesModel.f_h a)])) b = wPF cyI cyJ cyZ cyO28f5b cyOff204 { S with O_DearVotesModel := { S.O_DearVotesModel with f_tryVoices := va_up S.O_DearVotesModel.f_tryVoices a v } } b := by by_cases hb : b = a <;> first | (simp only [wPF, va_up_ne _ _ hb]; done) | (simp only [wPF, va_up, if_neg hb]; done) | simp [wPF, va_re, va_up, va_rf, hb, h]
theorem wPu_O_DearVotesModel_f_tryVoices (cyI : ClassId) (cyJ : ClassId) (cyZ : ClassId) (cyO28f5b : ClassId) (cyOff204 : ClassId) (X : va_W) (S : wPS) {A : Nat → Prop} {a k : Nat} (hD : va_D A (X ++ va_pl S.L (wPF cyI cyJ cyZ cyO28f5b cyOff204 S))) (hL : a ∈ S.L) (h : S.K a = 5) (hk : (X ++ va_pl S.L (wPF cyI cyJ cyZ cyO28f5b cyOff204 S))[k]? = some (a, wPF cyI cyJ cyZ cyO28f5b cyOff204 S a)) (v : Option Nat) : (X ++ va_pl S.L (wPF cyI cyJ cyZ cyO28f5b cyOff204 S)).set k (a, .inr (5, [.int (S.O_DearVotesModel.f_people a), .int (S.O_DearVotesModel.f_questions a), .int (S.O_DearVotesModel.f_projects a), .int (S.O_DearVotesModel.f_seed a), va_rf (S.O_DearVotesModel.f_budgets a), va_rf (S.O_DearVotesModel.f_isHere a), va_rf (S.O_DearVotesModel.f_votes a), va_rf (S.O_DearVotesModel.f_worths a), va_rf (S.O_DearVotesModel.f_gifts a), va_rf (S.O_DearVotesModel.f_bonds a), .int (S.O_DearVotesModel.f_rounds a), .int (S.O_DearVotesModel.f_changes a), .int (S.O_DearVotesModel.f_ended a), .int (S.O_DearVotesModel.f_ring a), va_rf (S.O_DearVotesModel.f_cheapest a), va_rf (S.O_DearVotesModel.f_may a), va_rf (S.O_DearVotesModel.f_bestVoices a), va_rf v, .int (S.O_DearVotesModel.f_bestGain a), .int (S.O_DearVotesModel.f_bestCost a), .int (S.O_DearVotesModel.f_hasBest a), va_rf (S.O_DearVotesModel.f_past a), va_rf (S.O_DearVotesModel.f_parts a), va_rf (S.O_DearVotesModel.f_rests a), .long (S.O_DearVotesModel.f_h a)])) = X ++ va_pl S.L (wPF cyI cyJ cyZ cyO28f5b cyOff204 { S with O_DearVotesModel := { S.O_DearVotesModel with f_tryVoices := va_up S.O_DearVotesModel.f_tryVoices a v } }) := by
  rw [va_pl_set hD hL hk]
  exact congrArg (fun l => X ++ l) (va_pl_congr (wSt_O_DearVotesModel_f_tryVoices cyI cyJ cyZ cyO28f5b cyOff204 S h v))
theorem wSt_O_DearVotesModel_f_bestGain (cyI : ClassId) (cyJ : ClassId) (cyZ : ClassId) (cyO28f5b : ClassId) (cyOff204 : ClassId) (S : wPS) {a : Nat} (h : S.K a = 5) (v : Int32) (b : Nat) : va_up (wPF cyI cyJ cyZ cyO28f5b cyOff204 S) a (.inr (5, [.int (S.O_DearVotesModel.f_people a), .int (S.O_DearVotesModel.f_questions a), .int (S.O_DearVotesModel.f_projects a), .int (S.O_DearVotesModel.f_seed a), va_rf (S.O_DearVotesModel.f_budgets a), va_rf (S.O_DearVotesModel.f_isHere a), va_rf (S.O_DearVotesModel.f_votes a), va_rf (S.O_DearVotesModel.f_worths a), va_rf (S.O_DearVotesModel.f_gifts a), va_rf (S.O_DearVotesModel.f_bonds a), .int (S.O_DearVotesModel.f_rounds a), .int (S.O_DearVotesModel.f_changes a), .int (S.O_DearVotesModel.f_ended a), .int (S.O_DearVotesModel.f_ring a), va_rf (S.O_DearVotesModel.f_cheapest a), va_rf (S.O_DearVotesModel.f_may a), va_rf (S.O_DearVotesModel.f_bestVoices a), va_rf (S.O_DearVotesModel.f_tryVoices a), .int v, .int (S.O_DearVotesModel.f_bestCost a), .int (S.O_DearVotesModel.f_hasBest a), va_rf (S.O_DearVotesModel.f_past a), va_rf (S.O_DearVotesModel.f_parts a), va_rf (S.O_DearVotesModel.f_rests a), .long (S.O_DearVotesModel.f_h a)])) b = wPF cyI cyJ cyZ cyO28f5b cyOff204 { S with O_DearVotesModel := { S.O_DearVotesModel with f_bestGain := va_up S.O_DearVotesModel.f_bestGain a v } } b := by by_cases hb : b = a <;> first | (simp only [wPF, va_up_ne _ _ hb]; done) | (simp only [wPF, va_up, if_neg hb]; done) | simp [wPF, va_re, va_up, va_rf, hb, h]
theorem wPu_O_DearVotesModel_f_bestGain (cyI : ClassId) (cyJ : ClassId) (cyZ : ClassId) (cyO28f5b : ClassId) (cyOff204 : ClassId) (X : va_W) (S : wPS) {A : Nat → Prop} {a k : Nat} (hD : va_D A (X ++ va_pl S.L (wPF cyI cyJ cyZ cyO28f5b cyOff204 S))) (hL : a ∈ S.L) (h : S.K a = 5) (hk : (X ++ va_pl S.L (wPF cyI cyJ cyZ cyO28f5b cyOff204 S))[k]? = some (a, wPF cyI cyJ cyZ cyO28f5b cyOff204 S a)) (v : Int32) : (X ++ va_pl S.L (wPF cyI cyJ cyZ cyO28f5b cyOff204 S)).set k (a, .inr (5, [.int (S.O_DearVotesModel.f_people a), .int (S.O_DearVotesModel.f_questions a), .int (S.O_DearVotesModel.f_projects a), .int (S.O_DearVotesModel.f_seed a), va_rf (S.O_DearVotesModel.f_budgets a), va_rf (S.O_DearVotesModel.f_isHere a), va_rf (S.O_DearVotesModel.f_votes a), va_rf (S.O_DearVotesModel.f_worths a), va_rf (S.O_DearVotesModel.f_gifts a), va_rf (S.O_DearVotesModel.f_bonds a), .int (S.O_DearVotesModel.f_rounds a), .int (S.O_DearVotesModel.f_changes a), .int (S.O_DearVotesModel.f_ended a), .int (S.O_DearVotesModel.f_ring a), va_rf (S.O_DearVotesModel.f_cheapest a), va_rf (S.O_DearVotesModel.f_may a), va_rf (S.O_DearVotesModel.f_bestVoices a), va_rf (S.O_DearVotesModel.f_tryVoices a), .int v, .int (S.O_DearVotesModel.f_bestCost a), .int (S.O_DearVotesModel.f_hasBest a), va_rf (S.O_DearVotesModel.f_past a), va_rf (S.O_DearVotesModel.f_parts a), va_rf (S.O_DearVotesModel.f_rests a), .long (S.O_DearVotesModel.f_h a)])) = X ++ va_pl S.L (wPF cyI cyJ cyZ cyO28f5b cyOff204 { S with O_DearVotesModel := { S.O_DearVotesModel with f_bestGain := va_up S.O_DearVotesModel.f_bestGain a v } }) := by
  rw [va_pl_set hD hL hk]
  exact congrArg (fun l => X ++ l) (va_pl_congr (wSt_O_DearVotesModel_f_bestGain cyI cyJ cyZ cyO28f5b cyOff204 S h v))
theorem wSt_O_DearVotesModel_f_bestCost (cyI : ClassId) (cyJ : ClassId) (cyZ : ClassId) (cyO28f5b : ClassId) (cyOff204 : ClassId) (S : wPS) {a : Nat} (h : S.K a = 5) (v : Int32) (b : Nat) : va_up (wPF cyI cyJ cyZ cyO28f5b cyOff204 S) a (.inr (5, [.int (S.O_DearVotesModel.f_people a), .int (S.O_DearVotesModel.f_questions a), .int (S.O_DearVotesModel.f_projects a), .int (S.O_DearVotesModel.f_seed a), va_rf (S.O_DearVotesModel.f_budgets a), va_rf (S.O_DearVotesModel.f_isHere a), va_rf (S.O_DearVotesModel.f_votes a), va_rf (S.O_DearVotesModel.f_worths a), va_rf (S.O_DearVotesModel.f_gifts a), va_rf (S.O_DearVotesModel.f_bonds a), .int (S.O_DearVotesModel.f_rounds a), .int (S.O_DearVotesModel.f_changes a), .int (S.O_DearVotesModel.f_ended a), .int (S.O_DearVotesModel.f_ring a), va_rf (S.O_DearVotesModel.f_cheapest a), va_rf (S.O_DearVotesModel.f_may a), va_rf (S.O_DearVotesModel.f_bestVoices a), va_rf (S.O_DearVotesModel.f_tryVoices a), .int (S.O_DearVotesModel.f_bestGain a), .int v, .int (S.O_DearVotesModel.f_hasBest a), va_rf (S.O_DearVotesModel.f_past a), va_rf (S.O_DearVotesModel.f_parts a), va_rf (S.O_DearVotesModel.f_rests a), .long (S.O_DearVotesModel.f_h a)])) b = wPF cyI cyJ cyZ cyO28f5b cyOff204 { S with O_DearVotesModel := { S.O_DearVotesModel with f_bestCost := va_up S.O_DearVotesModel.f_bestCost a v } } b := by by_cases hb : b = a <;> first | (simp only [wPF, va_up_ne _ _ hb]; done) | (simp only [wPF, va_up, if_neg hb]; done) | simp [wPF, va_re, va_up, va_rf, hb, h]
theorem wPu_O_DearVotesModel_f_bestCost (cyI : ClassId) (cyJ : ClassId) (cyZ : ClassId) (cyO28f5b : ClassId) (cyOff204 : ClassId) (X : va_W) (S : wPS) {A : Nat → Prop} {a k : Nat} (hD : va_D A (X ++ va_pl S.L (wPF cyI cyJ cyZ cyO28f5b cyOff204 S))) (hL : a ∈ S.L) (h : S.K a = 5) (hk : (X ++ va_pl S.L (wPF cyI cyJ cyZ cyO28f5b cyOff204 S))[k]? = some (a, wPF cyI cyJ cyZ cyO28f5b cyOff204 S a)) (v : Int32) : (X ++ va_pl S.L (wPF cyI cyJ cyZ cyO28f5b cyOff204 S)).set k (a, .inr (5, [.int (S.O_DearVotesModel.f_people a), .int (S.O_DearVotesModel.f_questions a), .int (S.O_DearVotesModel.f_projects a), .int (S.O_DearVotesModel.f_seed a), va_rf (S.O_DearVotesModel.f_budgets a), va_rf (S.O_DearVotesModel.f_isHere a), va_rf (S.O_DearVotesModel.f_votes a), va_rf (S.O_DearVotesModel.f_worths a), va_rf (S.O_DearVotesModel.f_gifts a), va_rf (S.O_DearVotesModel.f_bonds a), .int (S.O_DearVotesModel.f_rounds a), .int (S.O_DearVotesModel.f_changes a), .int (S.O_DearVotesModel.f_ended a), .int (S.O_DearVotesModel.f_ring a), va_rf (S.O_DearVotesModel.f_cheapest a), va_rf (S.O_DearVotesModel.f_may a), va_rf (S.O_DearVotesModel.f_bestVoices a), va_rf (S.O_DearVotesModel.f_tryVoices a), .int (S.O_DearVotesModel.f_bestGain a), .int v, .int (S.O_DearVotesModel.f_hasBest a), va_rf (S.O_DearVotesModel.f_past a), va_rf (S.O_DearVotesModel.f_parts a), va_rf (S.O_DearVotesModel.f_rests a), .long (S.O_DearVotesModel.f_h a)])) = X ++ va_pl S.L (wPF cyI cyJ cyZ cyO28f5b cyOff204 { S with O_DearVotesModel := { S.O_DearVotesModel with f_bestCost := va_up S.O_DearVotesModel.f_bestCost a v } }) := by
  rw [va_pl_set hD hL hk]
  exact congrArg (fun l => X ++ l) (va_pl_congr (wSt_O_DearVotesModel_f_bestCost cyI cyJ cyZ cyO28f5b cyOff204 S h v))
theorem wSt_O_DearVotesModel_f_hasBest (cyI : ClassId) (cyJ : ClassId) (cyZ : ClassId) (cyO28f5b : ClassId) (cyOff204 : ClassId) (S : wPS) {a : Nat} (h : S.K a = 5) (v : Int32) (b : Nat) : va_up (wPF cyI cyJ cyZ cyO28f5b cyOff204 S) a (.inr (5, [.int (S.O_DearVotesModel.f_people a), .int (S.O_DearVotesModel.f_questions a), .int (S.O_DearVotesModel.f_projects a), .int (S.O_DearVotesModel.f_seed a), va_rf (S.O_DearVotesModel.f_budgets a), va_rf (S.O_DearVotesModel.f_isHere a), va_rf (S.O_DearVotesModel.f_votes a), va_rf (S.O_DearVotesModel.f_worths a), va_rf (S.O_DearVotesModel.f_gifts a), va_rf (S.O_DearVotesModel.f_bonds a), .int (S.O_DearVotesModel.f_rounds a), .int (S.O_DearVotesModel.f_changes a), .int (S.O_DearVotesModel.f_ended a), .int (S.O_DearVotesModel.f_ring a), va_rf (S.O_DearVotesModel.f_cheapest a), va_rf (S.O_DearVotesModel.f_may a), va_rf (S.O_DearVotesModel.f_bestVoices a), va_rf (S.O_DearVotesModel.f_tryVoices a), .int (S.O_DearVotesModel.f_bestGain a), .int (S.O_DearVotesModel.f_bestCost a), .int v, va_rf (S.O_DearVotesModel.f_past a), va_rf (S.O_DearVotesModel.f_parts a), va_rf (S.O_DearVotesModel.f_rests a), .long (S.O_DearVotesModel.f_h a)])) b = wPF cyI cyJ cyZ cyO28f5b cyOff204 { S with O_DearVotesModel := { S.O_DearVotesModel with f_hasBest := va_up S.O_DearVotesModel.f_hasBest a v } } b := by by_cases hb : b = a <;> first | (simp only [wPF, va_up_ne _ _ hb]; done) | (simp only [wPF, va_up, if_neg hb]; done) | simp [wPF, va_re, va_up, va_rf, hb, h]
theorem wPu_O_DearVotesModel_f_hasBest (cyI : ClassId) (cyJ : ClassId) (cyZ : ClassId) (cyO28f5b : ClassId) (cyOff204 : ClassId) (X : va_W) (S : wPS) {A : Nat → Prop} {a k : Nat} (hD : va_D A (X ++ va_pl S.L (wPF cyI cyJ cyZ cyO28f5b cyOff204 S))) (hL : a ∈ S.L) (h : S.K a = 5) (hk : (X ++ va_pl S.L (wPF cyI cyJ cyZ cyO28f5b cyOff204 S))[k]? = some (a, wPF cyI cyJ cyZ cyO28f5b cyOff204 S a)) (v : Int32) : (X ++ va_pl S.L (wPF cyI cyJ cyZ cyO28f5b cyOff204 S)).set k (a, .inr (5, [.int (S.O_DearVotesModel.f_people a), .int (S.O_DearVotesModel.f_questions a), .int (S.O_DearVotesModel.f_projects a), .int (S.O_DearVotesModel.f_seed a), va_rf (S.O_DearVotesModel.f_budgets a), va_rf (S.O_DearVotesModel.f_isHere a), va_rf (S.O_DearVotesModel.f_votes a), va_rf (S.O_DearVotesModel.f_worths a), va_rf (S.O_DearVotesModel.f_gifts a), va_rf (S.O_DearVotesModel.f_bonds a), .int (S.O_DearVotesModel.f_rounds a), .int (S.O_DearVotesModel.f_changes a), .int (S.O_DearVotesModel.f_ended a), .int (S.O_DearVotesModel.f_ring a), va_rf (S.O_DearVotesModel.f_cheapest a), va_rf (S.O_DearVotesModel.f_may a), va_rf (S.O_DearVotesModel.f_bestVoices a), va_rf (S.O_DearVotesModel.f_tryVoices a), .int (S.O_DearVotesModel.f_bestGain a), .int (S.O_DearVotesModel.f_bestCost a), .int v, va_rf (S.O_DearVotesModel.f_past a), va_rf (S.O_DearVotesModel.f_parts a), va_rf (S.O_DearVotesModel.f_rests a), .long (S.O_DearVotesModel.f_h a)])) = X ++ va_pl S.L (wPF cyI cyJ cyZ cyO28f5b cyOff204 { S with O_DearVotesModel := { S.O_DearVotesModel with f_hasBest := va_up S.O_DearVotesModel.f_hasBest a v } }) := by
  rw [va_pl_set hD hL hk]
  exact congrArg (fun l => X ++ l) (va_pl_congr (wSt_O_DearVotesModel_f_hasBest cyI cyJ cyZ cyO28f5b cyOff204 S h v))
theorem wSt_O_DearVotesModel_f_past (cyI : ClassId) (cyJ : ClassId) (cyZ : ClassId) (cyO28f5b : ClassId) (cyOff204 : ClassId) (S : wPS) {a : Nat} (h : S.K a = 5) (v : Option Nat) (b : Nat) : va_up (wPF cyI cyJ cyZ cyO28f5b cyOff204 S) a (.inr (5, [.int (S.O_DearVotesModel.f_people a), .int (S.O_DearVotesModel.f_questions a), .int (S.O_DearVotesModel.f_projects a), .int (S.O_DearVotesModel.f_seed a), va_rf (S.O_DearVotesModel.f_budgets a), va_rf (S.O_DearVotesModel.f_isHere a), va_rf (S.O_DearVotesModel.f_votes a), va_rf (S.O_DearVotesModel.f_worths a), va_rf (S.O_DearVotesModel.f_gifts a), va_rf (S.O_DearVotesModel.f_bonds a), .int (S.O_DearVotesModel.f_rounds a), .int (S.O_DearVotesModel.f_changes a), .int (S.O_DearVotesModel.f_ended a), .int (S.O_DearVotesModel.f_ring a), va_rf (S.O_DearVotesModel.f_cheapest a), va_rf (S.O_DearVotesModel.f_may a), va_rf (S.O_DearVotesModel.f_bestVoices a), va_rf (S.O_DearVotesModel.f_tryVoices a), .int (S.O_DearVotesModel.f_bestGain a), .int (S.O_DearVotesModel.f_bestCost a), .int (S.O_DearVotesModel.f_hasBest a), va_rf v, va_rf (S.O_DearVotesModel.f_parts a), va_rf (S.O_DearVotesModel.f_rests a), .long (S.O_DearVotesModel.f_h a)])) b = wPF cyI cyJ cyZ cyO28f5b cyOff204 { S with O_DearVotesModel := { S.O_DearVotesModel with f_past := va_up S.O_DearVotesModel.f_past a v } } b := by by_cases hb : b = a <;> first | (simp only [wPF, va_up_ne _ _ hb]; done) | (simp only [wPF, va_up, if_neg hb]; done) | simp [wPF, va_re, va_up, va_rf, hb, h]
theorem wPu_O_DearVotesModel_f_past (cyI : ClassId) (cyJ : ClassId) (cyZ : ClassId) (cyO28f5b : ClassId) (cyOff204 : ClassId) (X : va_W) (S : wPS) {A : Nat → Prop} {a k : Nat} (hD : va_D A (X ++ va_pl S.L (wPF cyI cyJ cyZ cyO28f5b cyOff204 S))) (hL : a ∈ S.L) (h : S.K a = 5) (hk : (X ++ va_pl S.L (wPF cyI cyJ cyZ cyO28f5b cyOff204 S))[k]? = some (a, wPF cyI cyJ cyZ cyO28f5b cyOff204 S a)) (v : Option Nat) : (X ++ va_pl S.L (wPF cyI cyJ cyZ cyO28f5b cyOff204 S)).set k (a, .inr (5, [.int (S.O_DearVotesModel.f_people a), .int (S.O_DearVotesModel.f_questions a), .int (S.O_DearVotesModel.f_projects a), .int (S.O_DearVotesModel.f_seed a), va_rf (S.O_DearVotesModel.f_budgets a), va_rf (S.O_DearVotesModel.f_isHere a), va_rf (S.O_DearVotesModel.f_votes a), va_rf (S.O_DearVotesModel.f_worths a), va_rf (S.O_DearVotesModel.f_gifts a), va_rf (S.O_DearVotesModel.f_bonds a), .int (S.O_DearVotesModel.f_rounds a), .int (S.O_DearVotesModel.f_changes a), .int (S.O_DearVotesModel.f_ended a), .int (S.O_DearVotesModel.f_ring a), va_rf (S.O_DearVotesModel.f_cheapest a), va_rf (S.O_DearVotesModel.f_may a), va_rf (S.O_DearVotesModel.f_bestVoices a), va_rf (S.O_DearVotesModel.f_tryVoices a), .int (S.O_DearVotesModel.f_bestGain a), .int (S.O_DearVotesModel.f_bestCost a), .int (S.O_DearVotesModel.f_hasBest a), va_rf v, va_rf (S.O_DearVotesModel.f_parts a), va_rf (S.O_DearVotesModel.f_rests a), .long (S.O_DearVotesModel.f_h a)])) = X ++ va_pl S.L (wPF cyI cyJ cyZ cyO28f5b cyOff204 { S with O_DearVotesModel := { S.O_DearVotesModel with f_past := va_up S.O_DearVotesModel.f_past a v } }) := by
  rw [va_pl_set hD hL hk]
  exact congrArg (fun l => X ++ l) (va_pl_congr (wSt_O_DearVotesModel_f_past cyI cyJ cyZ cyO28f5b cyOff204 S h v))
theorem wSt_O_DearVotesModel_f_parts (cyI : ClassId) (cyJ : ClassId) (cyZ : ClassId) (cyO28f5b : ClassId) (cyOff204 : ClassId) (S : wPS) {a : Nat} (h : S.K a = 5) (v : Option Nat) (b : Nat) : va_up (wPF cyI cyJ cyZ cyO28f5b cyOff204 S) a (.inr (5, [.int (S.O_DearVotesModel.f_people a), .int (S.O_DearVotesModel.f_questions a), .int (S.O_DearVotesModel.f_projects a), .int (S.O_DearVotesModel.f_seed a), va_rf (S.O_DearVotesModel.f_budgets a), va_rf (S.O_DearVotesModel.f_isHere a), va_rf (S.O_DearVotesModel.f_votes a), va_rf (S.O_DearVotesModel.f_worths a), va_rf (S.O_DearVotesModel.f_gifts a), va_rf (S.O_DearVotesModel.f_bonds a), .int (S.O_DearVotesModel.f_rounds a), .int (S.O_DearVotesModel.f_changes a), .int (S.O_DearVotesModel.f_ended a), .int (S.O_DearVotesModel.f_ring a), va_rf (S.O_DearVotesModel.f_cheapest a), va_rf (S.O_DearVotesModel.f_may a), va_rf (S.O_DearVotesModel.f_bestVoices a), va_rf (S.O_DearVotesModel.f_tryVoices a), .int (S.O_DearVotesModel.f_bestGain a), .int (S.O_DearVotesModel.f_bestCost a), .int (S.O_DearVotesModel.f_hasBest a), va_rf (S.O_DearVotesModel.f_past a), va_rf v, va_rf (S.O_DearVotesModel.f_rests a), .long (S.O_DearVotesModel.f_h a)])) b = wPF cyI cyJ cyZ cyO28f5b cyOff204 { S with O_DearVotesModel := { S.O_DearVotesModel with f_parts := va_up S.O_DearVotesModel.f_parts a v } } b := by by_cases hb : b = a <;> first | (simp only [wPF, va_up_ne _ _ hb]; done) | (simp only [wPF, va_up, if_neg hb]; done) | simp [wPF, va_re, va_up, va_rf, hb, h]
theorem wPu_O_DearVotesModel_f_parts (cyI : ClassId) (cyJ : ClassId) (cyZ : ClassId) (cyO28f5b : ClassId) (cyOff204 : ClassId) (X : va_W) (S : wPS) {A : Nat → Prop} {a k : Nat} (hD : va_D A (X ++ va_pl S.L (wPF cyI cyJ cyZ cyO28f5b cyOff204 S))) (hL : a ∈ S.L) (h : S.K a = 5) (hk : (X ++ va_pl S.L (wPF cyI cyJ cyZ cyO28f5b cyOff204 S))[k]? = some (a, wPF cyI cyJ cyZ cyO28f5b cyOff204 S a)) (v : Option Nat) : (X ++ va_pl S.L (wPF cyI cyJ cyZ cyO28f5b cyOff204 S)).set k (a, .inr (5, [.int (S.O_DearVotesModel.f_people a), .int (S.O_DearVotesModel.f_questions a), .int (S.O_DearVotesModel.f_projects a), .int (S.O_DearVotesModel.f_seed a), va_rf (S.O_DearVotesModel.f_budgets a), va_rf (S.O_DearVotesModel.f_isHere a), va_rf (S.O_DearVotesModel.f_votes a), va_rf (S.O_DearVotesModel.f_worths a), va_rf (S.O_DearVotesModel.f_gifts a), va_rf (S.O_DearVotesModel.f_bonds a), .int (S.O_DearVotesModel.f_rounds a), .int (S.O_DearVotesModel.f_changes a), .int (S.O_DearVotesModel.f_ended a), .int (S.O_DearVotesModel.f_ring a), va_rf (S.O_DearVotesModel.f_cheapest a), va_rf (S.O_DearVotesModel.f_may a), va_rf (S.O_DearVotesModel.f_bestVoices a), va_rf (S.O_DearVotesModel.f_tryVoices a), .int (S.O_DearVotesModel.f_bestGain a), .int (S.O_DearVotesModel.f_bestCost a), .int (S.O_DearVotesModel.f_hasBest a), va_rf (S.O_DearVotesModel.f_past a), va_rf v, va_rf (S.O_DearVotesModel.f_rests a), .long (S.O_DearVotesModel.f_h a)])) = X ++ va_pl S.L (wPF cyI cyJ cyZ cyO28f5b cyOff204 { S with O_DearVotesModel := { S.O_DearVotesModel with f_parts := va_up S.O_DearVotesModel.f_parts a v } }) := by
  rw [va_pl_set hD hL hk]
  exact congrArg (fun l => X ++ l) (va_pl_congr (wSt_O_DearVotesModel_f_parts cyI cyJ cyZ cyO28f5b cyOff204 S h v))
theorem wSt_O_DearVotesModel_f_rests (cyI : ClassId) (cyJ : ClassId) (cyZ : ClassId) (cyO28f5b : ClassId) (cyOff204 : ClassId) (S : wPS) {a : Nat} (h : S.K a = 5) (v : Option Nat) (b : Nat) : va_up (wPF cyI cyJ cyZ cyO28f5b cyOff204 S) a (.inr (5, [.int (S.O_DearVotesModel.f_people a), .int (S.O_DearVotesModel.f_questions a), .int (S.O_DearVotesModel.f_projects a), .int (S.O_DearVotesModel.f_seed a), va_rf (S.O_DearVotesModel.f_budgets a), va_rf (S.O_DearVotesModel.f_isHere a), va_rf (S.O_DearVotesModel.f_votes a), va_rf (S.O_DearVotesModel.f_worths a), va_rf (S.O_DearVotesModel.f_gifts a), va_rf (S.O_DearVotesModel.f_bonds a), .int (S.O_DearVotesModel.f_rounds a), .int (S.O_DearVotesModel.f_changes a), .int (S.O_DearVotesModel.f_ended a), .int (S.O_DearVotesModel.f_ring a), va_rf (S.O_DearVotesModel.f_cheapest a), va_rf (S.O_DearVotesModel.f_may a), va_rf (S.O_DearVotesModel.f_bestVoices a), va_rf (S.O_DearVotesModel.f_tryVoices a), .int (S.O_DearVotesModel.f_bestGain a), .int (S.O_DearVotesModel.f_bestCost a), .int (S.O_DearVotesModel.f_hasBest a), va_rf (S.O_DearVotesModel.f_past a), va_rf (S.O_DearVotesModel.f_parts a), va_rf v, .long (S.O_DearVotesModel.f_h a)])) b = wPF cyI cyJ cyZ cyO28f5b cyOff204 { S with O_DearVotesModel := { S.O_DearVotesModel with f_rests := va_up S.O_DearVotesModel.f_rests a v } } b := by by_cases hb : b = a <;> first | (simp only [wPF, va_up_ne _ _ hb]; done) | (simp only [wPF, va_up, if_neg hb]; done) | simp [wPF, va_re, va_up, va_rf, hb, h]
theorem wPu_O_DearVotesModel_f_rests (cyI : ClassId) (cyJ : ClassId) (cyZ : ClassId) (cyO28f5b : ClassId) (cyOff204 : ClassId) (X : va_W) (S : wPS) {A : Nat → Prop} {a k : Nat} (hD : va_D A (X ++ va_pl S.L (wPF cyI cyJ cyZ cyO28f5b cyOff204 S))) (hL : a ∈ S.L) (h : S.K a = 5) (hk : (X ++ va_pl S.L (wPF cyI cyJ cyZ cyO28f5b cyOff204 S))[k]? = some (a, wPF cyI cyJ cyZ cyO28f5b cyOff204 S a)) (v : Option Nat) : (X ++ va_pl S.L (wPF cyI cyJ cyZ cyO28f5b cyOff204 S)).set k (a, .inr (5, [.int (S.O_DearVotesModel.f_people a), .int (S.O_DearVotesModel.f_questions a), .int (S.O_DearVotesModel.f_projects a), .int (S.O_DearVotesModel.f_seed a), va_rf (S.O_DearVotesModel.f_budgets a), va_rf (S.O_DearVotesModel.f_isHere a), va_rf (S.O_DearVotesModel.f_votes a), va_rf (S.O_DearVotesModel.f_worths a), va_rf (S.O_DearVotesModel.f_gifts a), va_rf (S.O_DearVotesModel.f_bonds a), .int (S.O_DearVotesModel.f_rounds a), .int (S.O_DearVotesModel.f_changes a), .int (S.O_DearVotesModel.f_ended a), .int (S.O_DearVotesModel.f_ring a), va_rf (S.O_DearVotesModel.f_cheapest a), va_rf (S.O_DearVotesModel.f_may a), va_rf (S.O_DearVotesModel.f_bestVoices a), va_rf (S.O_DearVotesModel.f_tryVoices a), .int (S.O_DearVotesModel.f_bestGain a), .int (S.O_DearVotesModel.f_bestCost a), .int (S.O_DearVotesModel.f_hasBest a), va_rf (S.O_DearVotesModel.f_past a), va_rf (S.O_DearVotesModel.f_parts a), va_rf v, .long (S.O_DearVotesModel.f_h a)])) = X ++ va_pl S.L (wPF cyI cyJ cyZ cyO28f5b cyOff204 { S with O_DearVotesModel := { S.O_DearVotesModel with f_rests := va_up S.O_DearVotesModel.f_rests a v } }) := by
  rw [va_pl_set hD hL hk]
  exact congrArg (fun l => X ++ l) (va_pl_congr (wSt_O_DearVotesModel_f_rests cyI cyJ cyZ cyO28f5b cyOff204 S h v))
theorem wSt_O_DearVotesModel_f_h (cyI : ClassId) (cyJ : ClassId) (cyZ : ClassId) (cyO28f5b : ClassId) (cyOff204 : ClassId) (S : wPS) {a : Nat} (h : S.K a = 5) (v : Int64) (b : Nat) : va_up (wPF cyI cyJ cyZ cyO28f5b cyOff204 S) a (.inr (5, [.int (S.O_DearVotesModel.f_people a), .int (S.O_DearVotesModel.f_questions a), .int (S.O_DearVotesModel.f_projects a), .int (S.O_DearVotesModel.f_seed a), va_rf (S.O_DearVotesModel.f_budgets a), va_rf (S.O_DearVotesModel.f_isHere a), va_rf (S.O_DearVotesModel.f_votes a), va_rf (S.O_DearVotesModel.f_worths a), va_rf (S.O_DearVotesModel.f_gifts a), va_rf (S.O_DearVotesModel.f_bonds a), .int (S.O_DearVotesModel.f_rounds a), .int (S.O_DearVotesModel.f_changes a), .int (S.O_DearVotesModel.f_ended a), .int (S.O_DearVotesModel.f_ring a), va_rf (S.O_DearVotesModel.f_cheapest a), va_rf (S.O_DearVotesModel.f_may a), va_rf (S.O_DearVotesModel.f_bestVoices a), va_rf (S.O_DearVotesModel.f_tryVoices a), .int (S.O_DearVotesModel.f_bestGain a), .int (S.O_DearVotesModel.f_bestCost a), .int (S.O_DearVotesModel.f_hasBest a), va_rf (S.O_DearVotesModel.f_past a), va_rf (S.O_DearVotesModel.f_parts a), va_rf (S.O_DearVotesModel.f_rests a), .long v])) b = wPF cyI cyJ cyZ cyO28f5b cyOff204 { S with O_DearVotesModel := { S.O_DearVotesModel with f_h := va_up S.O_DearVotesModel.f_h a v } } b := by by_cases hb : b = a <;> first | (simp only [wPF, va_up_ne _ _ hb]; done) | (simp only [wPF, va_up, if_neg hb]; done) | simp [wPF, va_re, va_up, va_rf, hb, h]
theorem wPu_O_DearVotesModel_f_h (cyI : ClassId) (cyJ : ClassId) (cyZ : ClassId) (cyO28f5b : ClassId) (cyOff204 : ClassId) (X : va_W) (S : wPS) {A : Nat → Prop} {a k : Nat} (hD : va_D A (X ++ va_pl S.L (wPF cyI cyJ cyZ cyO28f5b cyOff204 S))) (hL : a ∈ S.L) (h : S.K a = 5) (hk : (X ++ va_pl S.L (wPF cyI cyJ cyZ cyO28f5b cyOff204 S))[k]? = some (a, wPF cyI cyJ cyZ cyO28f5b cyOff204 S a)) (v : Int64) : (X ++ va_pl S.L (wPF cyI cyJ cyZ cyO28f5b cyOff204 S)).set k (a, .inr (5, [.int (S.O_DearVotesModel.f_people a), .int (S.O_DearVotesModel.f_questions a), .int (S.O_DearVotesModel.f_projects a), .int (S.O_DearVotesModel.f_seed a), va_rf (S.O_DearVotesModel.f_budgets a), va_rf (S.O_DearVotesModel.f_isHere a), va_rf (S.O_DearVotesModel.f_votes a), va_rf (S.O_DearVotesModel.f_worths a), va_rf (S.O_DearVotesModel.f_gifts a), va_rf (S.O_DearVotesModel.f_bonds a), .int (S.O_DearVotesModel.f_rounds a), .int (S.O_DearVotesModel.f_changes a), .int (S.O_DearVotesModel.f_ended a), .int (S.O_DearVotesModel.f_ring a), va_rf (S.O_DearVotesModel.f_cheapest a), va_rf (S.O_DearVotesModel.f_may a), va_rf (S.O_DearVotesModel.f_bestVoices a), va_rf (S.O_DearVotesModel.f_tryVoices a), .int (S.O_DearVotesModel.f_bestGain a), .int (S.O_DearVotesModel.f_bestCost a), .int (S.O_DearVotesModel.f_hasBest a), va_rf (S.O_DearVotesModel.f_past a), va_rf (S.O_DearVotesModel.f_parts a), va_rf (S.O_DearVotesModel.f_rests a), .long v])) = X ++ va_pl S.L (wPF cyI cyJ cyZ cyO28f5b cyOff204 { S with O_DearVotesModel := { S.O_DearVotesModel with f_h := va_up S.O_DearVotesModel.f_h a v } }) := by
  rw [va_pl_set hD hL hk]
  exact congrArg (fun l => X ++ l) (va_pl_congr (wSt_O_DearVotesModel_f_h cyI cyJ cyZ cyO28f5b cyOff204 S h v))
theorem wNw_O_DearVotesModel (cyI : ClassId) (cyJ : ClassId) (cyZ : ClassId) (cyO28f5b : ClassId) (cyOff204 : ClassId) (S : wPS) (a b : Nat) : va_up (wPF cyI cyJ cyZ cyO28f5b cyOff204 S) a (.inr (5, [.int 0, .int 0, .int 0, .int 0, .null, .null, .null, .null, .null, .null, .int 0, .int 0, .int 0, .int 0, .null, .null, .null, .null, .int 0, .int 0, .int 0, .null, .null, .null, .long 0])) b = wPF cyI cyJ cyZ cyO28f5b cyOff204 { S with L := S.L ++ [a], K := va_up S.K a 5, O_DearVotesModel := { f_people := va_up S.O_DearVotesModel.f_people a 0, f_questions := va_up S.O_DearVotesModel.f_questions a 0, f_projects := va_up S.O_DearVotesModel.f_projects a 0, f_seed := va_up S.O_DearVotesModel.f_seed a 0, f_budgets := va_up S.O_DearVotesModel.f_budgets a none, f_isHere := va_up S.O_DearVotesModel.f_isHere a none, f_votes := va_up S.O_DearVotesModel.f_votes a none, f_worths := va_up S.O_DearVotesModel.f_worths a none, f_gifts := va_up S.O_DearVotesModel.f_gifts a none, f_bonds := va_up S.O_DearVotesModel.f_bonds a none, f_rounds := va_up S.O_DearVotesModel.f_rounds a 0, f_changes := va_up S.O_DearVotesModel.f_changes a 0, f_ended := va_up S.O_DearVotesModel.f_ended a 0, f_ring := va_up S.O_DearVotesModel.f_ring a 0, f_cheapest := va_up S.O_DearVotesModel.f_cheapest a none, f_may := va_up S.O_DearVotesModel.f_may a none, f_bestVoices := va_up S.O_DearVotesModel.f_bestVoices a none, f_tryVoices := va_up S.O_DearVotesModel.f_tryVoices a none, f_bestGain := va_up S.O_DearVotesModel.f_bestGain a 0, f_bestCost := va_up S.O_DearVotesModel.f_bestCost a 0, f_hasBest := va_up S.O_DearVotesModel.f_hasBest a 0, f_past := va_up S.O_DearVotesModel.f_past a none, f_parts := va_up S.O_DearVotesModel.f_parts a none, f_rests := va_up S.O_DearVotesModel.f_rests a none, f_h := va_up S.O_DearVotesModel.f_h a 0 } } b := by by_cases hb : b = a <;> first | (simp only [wPF, va_up_ne _ _ hb]; done) | (simp only [wPF, va_up, if_neg hb]; done) | simp [wPF, va_re, va_up, va_rf, hb]
theorem wPn_O_DearVotesModel (cyI : ClassId) (cyJ : ClassId) (cyZ : ClassId) (cyO28f5b : ClassId) (cyOff204 : ClassId) (X : va_W) (S : wPS) {a : Nat} (ha : a ∉ S.L) : (X ++ va_pl S.L (wPF cyI cyJ cyZ cyO28f5b cyOff204 S)) ++ [(a, .inr (5, [.int 0, .int 0, .int 0, .int 0, .null, .null, .null, .null, .null, .null, .int 0, .int 0, .int 0, .int 0, .null, .null, .null, .null, .int 0, .int 0, .int 0, .null, .null, .null, .long 0]))] = X ++ va_pl (S.L ++ [a]) (wPF cyI cyJ cyZ cyO28f5b cyOff204 { S with L := S.L ++ [a], K := va_up S.K a 5, O_DearVotesModel := { f_people := va_up S.O_DearVotesModel.f_people a 0, f_questions := va_up S.O_DearVotesModel.f_questions a 0, f_projects := va_up S.O_DearVotesModel.f_projects a 0, f_seed := va_up S.O_DearVotesModel.f_seed a 0, f_budgets := va_up S.O_DearVotesModel.f_budgets a none, f_isHere := va_up S.O_DearVotesModel.f_isHere a none, f_votes := va_up S.O_DearVotesModel.f_votes a none, f_worths := va_up S.O_DearVotesModel.f_worths a none, f_gifts := va_up S.O_DearVotesModel.f_gifts a none, f_bonds := va_up S.O_DearVotesModel.f_bonds a none, f_rounds := va_up S.O_DearVotesModel.f_rounds a 0, f_changes := va_up S.O_DearVotesModel.f_changes a 0, f_ended := va_up S.O_DearVotesModel.f_ended a 0, f_ring := va_up S.O_DearVotesModel.f_ring a 0, f_cheapest := va_up S.O_DearVotesModel.f_cheapest a none, f_may := va_up S.O_DearVotesModel.f_may a none, f_bestVoices := va_up S.O_DearVotesModel.f_bestVoices a none, f_tryVoices := va_up S.O_DearVotesModel.f_tryVoices a none, f_bestGain := va_up S.O_DearVotesModel.f_bestGain a 0, f_bestCost := va_up S.O_DearVotesModel.f_bestCost a 0, f_hasBest := va_up S.O_DearVotesModel.f_hasBest a 0, f_past := va_up S.O_DearVotesModel.f_past a none, f_parts := va_up S.O_DearVotesModel.f_parts a none, f_rests := va_up S.O_DearVotesModel.f_rests a none, f_h := va_up S.O_DearVotesModel.f_h a 0 } }) := by
  rw [List.append_assoc, va_pl_push ha]
  exact congrArg (fun l => X ++ l) (va_pl_congr (wNw_O_DearVotesModel cyI cyJ cyZ cyO28f5b cyOff204 S a))
theorem wAt_R_I (cyI : ClassId) (cyJ : ClassId) (cyZ : ClassId) (cyO28f5b : ClassId) (cyOff204 : ClassId) (S : wPS) {a : Nat} (h : S.K a = 6) : wPF cyI cyJ cyZ cyO28f5b cyOff204 S a = .inl (cyI, S.R_I.len a, .inl (S.R_I.row a)) := by simp [wPF, h]
theorem wGt_R_I (cyI : ClassId) (cyJ : ClassId) (cyZ : ClassId) (cyO28f5b : ClassId) (cyOff204 : ClassId) (X : va_W) (S : wPS) {a : Nat} (hL : a ∈ S.L) (h : S.K a = 6) : ∃ k : Nat, (X ++ va_pl S.L (wPF cyI cyJ cyZ cyO28f5b cyOff204 S))[k]? = some (a, wPF cyI cyJ cyZ cyO28f5b cyOff204 S a) ∧ (X ++ va_pl S.L (wPF cyI cyJ cyZ cyO28f5b cyOff204 S))[k]? = some (a, .inl (cyI, S.R_I.len a, .inl (S.R_I.row a))) := by
  obtain ⟨k, hk⟩ := va_pl_get (X := X) (f := wPF cyI cyJ cyZ cyO28f5b cyOff204 S) hL
  exact ⟨k, hk, hk.trans (congrArg (fun e => some (a, e)) (wAt_R_I cyI cyJ cyZ cyO28f5b cyOff204 S h))⟩
theorem wSt_R_I_row (cyI : ClassId) (cyJ : ClassId) (cyZ : ClassId) (cyO28f5b : ClassId) (cyOff204 : ClassId) (S : wPS) {a : Nat} (h : S.K a = 6) (v : Nat → Int32) (b : Nat) : va_up (wPF cyI cyJ cyZ cyO28f5b cyOff204 S) a (.inl (cyI, S.R_I.len a, .inl v)) b = wPF cyI cyJ cyZ cyO28f5b cyOff204 { S with R_I := { S.R_I with row := va_up S.R_I.row a v } } b := by by_cases hb : b = a <;> first | (simp only [wPF, va_up_ne _ _ hb]; done) | (simp only [wPF, va_up, if_neg hb]; done) | simp [wPF, va_re, va_up, va_rf, hb, h]
theorem wPu_R_I_row (cyI : ClassId) (cyJ : ClassId) (cyZ : ClassId) (cyO28f5b : ClassId) (cyOff204 : ClassId) (X : va_W) (S : wPS) {A : Nat → Prop} {a k : Nat} (hD : va_D A (X ++ va_pl S.L (wPF cyI cyJ cyZ cyO28f5b cyOff204 S))) (hL : a ∈ S.L) (h : S.K a = 6) (hk : (X ++ va_pl S.L (wPF cyI cyJ cyZ cyO28f5b cyOff204 S))[k]? = some (a, wPF cyI cyJ cyZ cyO28f5b cyOff204 S a)) (v : Nat → Int32) : (X ++ va_pl S.L (wPF cyI cyJ cyZ cyO28f5b cyOff204 S)).set k (a, .inl (cyI, S.R_I.len a, .inl v)) = X ++ va_pl S.L (wPF cyI cyJ cyZ cyO28f5b cyOff204 { S with R_I := { S.R_I with row := va_up S.R_I.row a v } }) := by
  rw [va_pl_set hD hL hk]
  exact congrArg (fun l => X ++ l) (va_pl_congr (wSt_R_I_row cyI cyJ cyZ cyO28f5b cyOff204 S h v))
theorem wNr_R_I (cyI : ClassId) (cyJ : ClassId) (cyZ : ClassId) (cyO28f5b : ClassId) (cyOff204 : ClassId) (S : wPS) (rs : List Nat) (z : Nat) (f : Nat → Int32) (b : Nat) : vr_up (wPF cyI cyJ cyZ cyO28f5b cyOff204 S) rs (.inl (cyI, z, .inl f)) b = wPF cyI cyJ cyZ cyO28f5b cyOff204 { S with L := S.L ++ rs, K := vr_up S.K rs 6, R_I := { len := vr_up S.R_I.len rs z, row := vr_up S.R_I.row rs f } } b := by by_cases hb : b ∈ rs <;> first | (simp only [wPF, vr_up, if_pos hb]; done) | (simp only [wPF, vr_up, if_neg hb]; done) | (simp only [wPF, vr_up, if_pos hb]; simp; done)
theorem wNw_R_I (cyI : ClassId) (cyJ : ClassId) (cyZ : ClassId) (cyO28f5b : ClassId) (cyOff204 : ClassId) (S : wPS) (a : Nat) (z : Nat) (f : Nat → Int32) (b : Nat) : va_up (wPF cyI cyJ cyZ cyO28f5b cyOff204 S) a (.inl (cyI, z, .inl f)) b = wPF cyI cyJ cyZ cyO28f5b cyOff204 { S with L := S.L ++ [a], K := va_up S.K a 6, R_I := { len := va_up S.R_I.len a z, row := va_up S.R_I.row a f } } b := by by_cases hb : b = a <;> first | (simp only [wPF, va_up_ne _ _ hb]; done) | (simp only [wPF, va_up, if_neg hb]; done) | simp [wPF, va_re, va_up, va_rf, hb]
theorem wAt_R_J (cyI : ClassId) (cyJ : ClassId) (cyZ : ClassId) (cyO28f5b : ClassId) (cyOff204 : ClassId) (S : wPS) {a : Nat} (h : S.K a = 7) : wPF cyI cyJ cyZ cyO28f5b cyOff204 S a = .inl (cyJ, S.R_J.len a, .inr (.inl (S.R_J.row a))) := by simp [wPF, h]
theorem wGt_R_J (cyI : ClassId) (cyJ : ClassId) (cyZ : ClassId) (cyO28f5b : ClassId) (cyOff204 : ClassId) (X : va_W) (S : wPS) {a : Nat} (hL : a ∈ S.L) (h : S.K a = 7) : ∃ k : Nat, (X ++ va_pl S.L (wPF cyI cyJ cyZ cyO28f5b cyOff204 S))[k]? = some (a, wPF cyI cyJ cyZ cyO28f5b cyOff204 S a) ∧ (X ++ va_pl S.L (wPF cyI cyJ cyZ cyO28f5b cyOff204 S))[k]? = some (a, .inl (cyJ, S.R_J.len a, .inr (.inl (S.R_J.row a)))) := by
  obtain ⟨k, hk⟩ := va_pl_get (X := X) (f := wPF cyI cyJ cyZ cyO28f5b cyOff204 S) hL
  exact ⟨k, hk, hk.trans (congrArg (fun e => some (a, e)) (wAt_R_J cyI cyJ cyZ cyO28f5b cyOff204 S h))⟩
theorem wSt_R_J_row (cyI : ClassId) (cyJ : ClassId) (cyZ : ClassId) (cyO28f5b : ClassId) (cyOff204 : ClassId) (S : wPS) {a : Nat} (h : S.K a = 7) (v : Nat → Int64) (b : Nat) : va_up (wPF cyI cyJ cyZ cyO28f5b cyOff204 S) a (.inl (cyJ, S.R_J.len a, .inr (.inl v))) b = wPF cyI cyJ cyZ cyO28f5b cyOff204 { S with R_J := { S.R_J with row := va_up S.R_J.row a v } } b := by by_cases hb : b = a <;> first | (simp only [wPF, va_up_ne _ _ hb]; done) | (simp only [wPF, va_up, if_neg hb]; done) | simp [wPF, va_re, va_up, va_rf, hb, h]
theorem wPu_R_J_row (cyI : ClassId) (cyJ : ClassId) (cyZ : ClassId) (cyO28f5b : ClassId) (cyOff204 : ClassId) (X : va_W) (S : wPS) {A : Nat → Prop} {a k : Nat} (hD : va_D A (X ++ va_pl S.L (wPF cyI cyJ cyZ cyO28f5b cyOff204 S))) (hL : a ∈ S.L) (h : S.K a = 7) (hk : (X ++ va_pl S.L (wPF cyI cyJ cyZ cyO28f5b cyOff204 S))[k]? = some (a, wPF cyI cyJ cyZ cyO28f5b cyOff204 S a)) (v : Nat → Int64) : (X ++ va_pl S.L (wPF cyI cyJ cyZ cyO28f5b cyOff204 S)).set k (a, .inl (cyJ, S.R_J.len a, .inr (.inl v))) = X ++ va_pl S.L (wPF cyI cyJ cyZ cyO28f5b cyOff204 { S with R_J := { S.R_J with row := va_up S.R_J.row a v } }) := by
  rw [va_pl_set hD hL hk]
  exact congrArg (fun l => X ++ l) (va_pl_congr (wSt_R_J_row cyI cyJ cyZ cyO28f5b cyOff204 S h v))
theorem wNr_R_J (cyI : ClassId) (cyJ : ClassId) (cyZ : ClassId) (cyO28f5b : ClassId) (cyOff204 : ClassId) (S : wPS) (rs : List Nat) (z : Nat) (f : Nat → Int64) (b : Nat) : vr_up (wPF cyI cyJ cyZ cyO28f5b cyOff204 S) rs (.inl (cyJ, z, .inr (.inl f))) b = wPF cyI cyJ cyZ cyO28f5b cyOff204 { S with L := S.L ++ rs, K := vr_up S.K rs 7, R_J := { len := vr_up S.R_J.len rs z, row := vr_up S.R_J.row rs f } } b := by by_cases hb : b ∈ rs <;> first | (simp only [wPF, vr_up, if_pos hb]; done) | (simp only [wPF, vr_up, if_neg hb]; done) | (simp only [wPF, vr_up, if_pos hb]; simp; done)
theorem wNw_R_J (cyI : ClassId) (cyJ : ClassId) (cyZ : ClassId) (cyO28f5b : ClassId) (cyOff204 : ClassId) (S : wPS) (a : Nat) (z : Nat) (f : Nat → Int64) (b : Nat) : va_up (wPF cyI cyJ cyZ cyO28f5b cyOff204 S) a (.inl (cyJ, z, .inr (.inl f))) b = wPF cyI cyJ cyZ cyO28f5b cyOff204 { S with L := S.L ++ [a], K := va_up S.K a 7, R_J := { len := va_up S.R_J.len a z, row := va_up S.R_J.row a f } } b := by by_cases hb : b = a <;> first | (simp only [wPF, va_up_ne _ _ hb]; done) | (simp only [wPF, va_up, if_neg hb]; done) | simp [wPF, va_re, va_up, va_rf, hb]
theorem wAt_R_Z (cyI : ClassId) (cyJ : ClassId) (cyZ : ClassId) (cyO28f5b : ClassId) (cyOff204 : ClassId) (S : wPS) {a : Nat} (h : S.K a = 8) : wPF cyI cyJ cyZ cyO28f5b cyOff204 S a = .inl (cyZ, S.R_Z.len a, .inl (S.R_Z.row a)) := by simp [wPF, h]
theorem wGt_R_Z (cyI : ClassId) (cyJ : ClassId) (cyZ : ClassId) (cyO28f5b : ClassId) (cyOff204 : ClassId) (X : va_W) (S : wPS) {a : Nat} (hL : a ∈ S.L) (h : S.K a = 8) : ∃ k : Nat, (X ++ va_pl S.L (wPF cyI cyJ cyZ cyO28f5b cyOff204 S))[k]? = some (a, wPF cyI cyJ cyZ cyO28f5b cyOff204 S a) ∧ (X ++ va_pl S.L (wPF cyI cyJ cyZ cyO28f5b cyOff204 S))[k]? = some (a, .inl (cyZ, S.R_Z.len a, .inl (S.R_Z.row a))) := by
  obtain ⟨k, hk⟩ := va_pl_get (X := X) (f := wPF cyI cyJ cyZ cyO28f5b cyOff204 S) hL
  exact ⟨k, hk, hk.trans (congrArg (fun e => some (a, e)) (wAt_R_Z cyI cyJ cyZ cyO28f5b cyOff204 S h))⟩
theorem wSt_R_Z_row (cyI : ClassId) (cyJ : ClassId) (cyZ : ClassId) (cyO28f5b : ClassId) (cyOff204 : ClassId) (S : wPS) {a : Nat} (h : S.K a = 8) (v : Nat → Int32) (b : Nat) : va_up (wPF cyI cyJ cyZ cyO28f5b cyOff204 S) a (.inl (cyZ, S.R_Z.len a, .inl v)) b = wPF cyI cyJ cyZ cyO28f5b cyOff204 { S with R_Z := { S.R_Z with row := va_up S.R_Z.row a v } } b := by by_cases hb : b = a <;> first | (simp only [wPF, va_up_ne _ _ hb]; done) | (simp only [wPF, va_up, if_neg hb]; done) | simp [wPF, va_re, va_up, va_rf, hb, h]
theorem wPu_R_Z_row (cyI : ClassId) (cyJ : ClassId) (cyZ : ClassId) (cyO28f5b : ClassId) (cyOff204 : ClassId) (X : va_W) (S : wPS) {A : Nat → Prop} {a k : Nat} (hD : va_D A (X ++ va_pl S.L (wPF cyI cyJ cyZ cyO28f5b cyOff204 S))) (hL : a ∈ S.L) (h : S.K a = 8) (hk : (X ++ va_pl S.L (wPF cyI cyJ cyZ cyO28f5b cyOff204 S))[k]? = some (a, wPF cyI cyJ cyZ cyO28f5b cyOff204 S a)) (v : Nat → Int32) : (X ++ va_pl S.L (wPF cyI cyJ cyZ cyO28f5b cyOff204 S)).set k (a, .inl (cyZ, S.R_Z.len a, .inl v)) = X ++ va_pl S.L (wPF cyI cyJ cyZ cyO28f5b cyOff204 { S with R_Z := { S.R_Z with row := va_up S.R_Z.row a v } }) := by
  rw [va_pl_set hD hL hk]
  exact congrArg (fun l => X ++ l) (va_pl_congr (wSt_R_Z_row cyI cyJ cyZ cyO28f5b cyOff204 S h v))
theorem wNw_R_Z (cyI : ClassId) (cyJ : ClassId) (cyZ : ClassId) (cyO28f5b : ClassId) (cyOff204 : ClassId) (S : wPS) (a : Nat) (z : Nat) (f : Nat → Int32) (b : Nat) : va_up (wPF cyI cyJ cyZ cyO28f5b cyOff204 S) a (.inl (cyZ, z, .inl f)) b = wPF cyI cyJ cyZ cyO28f5b cyOff204 { S with L := S.L ++ [a], K := va_up S.K a 8, R_Z := { len := va_up S.R_Z.len a z, row := va_up S.R_Z.row a f } } b := by by_cases hb : b = a <;> first | (simp only [wPF, va_up_ne _ _ hb]; done) | (simp only [wPF, va_up, if_neg hb]; done) | simp [wPF, va_re, va_up, va_rf, hb]
theorem wAt_R__I (cyI : ClassId) (cyJ : ClassId) (cyZ : ClassId) (cyO28f5b : ClassId) (cyOff204 : ClassId) (S : wPS) {a : Nat} (h : S.K a = 9) : wPF cyI cyJ cyZ cyO28f5b cyOff204 S a = .inl (cyO28f5b, S.R__I.len a, .inr (.inr (.inr (.inr (S.R__I.row a))))) := by simp [wPF, h]
theorem wGt_R__I (cyI : ClassId) (cyJ : ClassId) (cyZ : ClassId) (cyO28f5b : ClassId) (cyOff204 : ClassId) (X : va_W) (S : wPS) {a : Nat} (hL : a ∈ S.L) (h : S.K a = 9) : ∃ k : Nat, (X ++ va_pl S.L (wPF cyI cyJ cyZ cyO28f5b cyOff204 S))[k]? = some (a, wPF cyI cyJ cyZ cyO28f5b cyOff204 S a) ∧ (X ++ va_pl S.L (wPF cyI cyJ cyZ cyO28f5b cyOff204 S))[k]? = some (a, .inl (cyO28f5b, S.R__I.len a, .inr (.inr (.inr (.inr (S.R__I.row a)))))) := by
  obtain ⟨k, hk⟩ := va_pl_get (X := X) (f := wPF cyI cyJ cyZ cyO28f5b cyOff204 S) hL
  exact ⟨k, hk, hk.trans (congrArg (fun e => some (a, e)) (wAt_R__I cyI cyJ cyZ cyO28f5b cyOff204 S h))⟩
theorem wSt_R__I_row (cyI : ClassId) (cyJ : ClassId) (cyZ : ClassId) (cyO28f5b : ClassId) (cyOff204 : ClassId) (S : wPS) {a : Nat} (h : S.K a = 9) (v : Nat → Option Nat) (b : Nat) : va_up (wPF cyI cyJ cyZ cyO28f5b cyOff204 S) a (.inl (cyO28f5b, S.R__I.len a, .inr (.inr (.inr (.inr v))))) b = wPF cyI cyJ cyZ cyO28f5b cyOff204 { S with R__I := { S.R__I with row := va_up S.R__I.row a v } } b := by by_cases hb : b = a <;> first | (simp only [wPF, va_up_ne _ _ hb]; done) | (simp only [wPF, va_up, if_neg hb]; done) | simp [wPF, va_re, va_up, va_rf, hb, h]
theorem wPu_R__I_row (cyI : ClassId) (cyJ : ClassId) (cyZ : ClassId) (cyO28f5b : ClassId) (cyOff204 : ClassId) (X : va_W) (S : wPS) {A : Nat → Prop} {a k : Nat} (hD : va_D A (X ++ va_pl S.L (wPF cyI cyJ cyZ cyO28f5b cyOff204 S))) (hL : a ∈ S.L) (h : S.K a = 9) (hk : (X ++ va_pl S.L (wPF cyI cyJ cyZ cyO28f5b cyOff204 S))[k]? = some (a, wPF cyI cyJ cyZ cyO28f5b cyOff204 S a)) (v : Nat → Option Nat) : (X ++ va_pl S.L (wPF cyI cyJ cyZ cyO28f5b cyOff204 S)).set k (a, .inl (cyO28f5b, S.R__I.len a, .inr (.inr (.inr (.inr v))))) = X ++ va_pl S.L (wPF cyI cyJ cyZ cyO28f5b cyOff204 { S with R__I := { S.R__I with row := va_up S.R__I.row a v } }) := by
  rw [va_pl_set hD hL hk]
  exact congrArg (fun l => X ++ l) (va_pl_congr (wSt_R__I_row cyI cyJ cyZ cyO28f5b cyOff204 S h v))
theorem wNw_R__I (cyI : ClassId) (cyJ : ClassId) (cyZ : ClassId) (cyO28f5b : ClassId) (cyOff204 : ClassId) (S : wPS) (a : Nat) (z : Nat) (f : Nat → Option Nat) (b : Nat) : va_up (wPF cyI cyJ cyZ cyO28f5b cyOff204 S) a (.inl (cyO28f5b, z, .inr (.inr (.inr (.inr f))))) b = wPF cyI cyJ cyZ cyO28f5b cyOff204 { S with L := S.L ++ [a], K := va_up S.K a 9, R__I := { len := va_up S.R__I.len a z, row := va_up S.R__I.row a f } } b := by by_cases hb : b = a <;> first | (simp only [wPF, va_up_ne _ _ hb]; done) | (simp only [wPF, va_up, if_neg hb]; done) | simp [wPF, va_re, va_up, va_rf, hb]
theorem wAt_R__J (cyI : ClassId) (cyJ : ClassId) (cyZ : ClassId) (cyO28f5b : ClassId) (cyOff204 : ClassId) (S : wPS) {a : Nat} (h : S.K a = 10) : wPF cyI cyJ cyZ cyO28f5b cyOff204 S a = .inl (cyOff204, S.R__J.len a, .inr (.inr (.inr (.inr (S.R__J.row a))))) := by simp [wPF, h]
theorem wGt_R__J (cyI : ClassId) (cyJ : ClassId) (cyZ : ClassId) (cyO28f5b : ClassId) (cyOff204 : ClassId) (X : va_W) (S : wPS) {a : Nat} (hL : a ∈ S.L) (h : S.K a = 10) : ∃ k : Nat, (X ++ va_pl S.L (wPF cyI cyJ cyZ cyO28f5b cyOff204 S))[k]? = some (a, wPF cyI cyJ cyZ cyO28f5b cyOff204 S a) ∧ (X ++ va_pl S.L (wPF cyI cyJ cyZ cyO28f5b cyOff204 S))[k]? = some (a, .inl (cyOff204, S.R__J.len a, .inr (.inr (.inr (.inr (S.R__J.row a)))))) := by
  obtain ⟨k, hk⟩ := va_pl_get (X := X) (f := wPF cyI cyJ cyZ cyO28f5b cyOff204 S) hL
  exact ⟨k, hk, hk.trans (congrArg (fun e => some (a, e)) (wAt_R__J cyI cyJ cyZ cyO28f5b cyOff204 S h))⟩
theorem wSt_R__J_row (cyI : ClassId) (cyJ : ClassId) (cyZ : ClassId) (cyO28f5b : ClassId) (cyOff204 : ClassId) (S : wPS) {a : Nat} (h : S.K a = 10) (v : Nat → Option Nat) (b : Nat) : va_up (wPF cyI cyJ cyZ cyO28f5b cyOff204 S) a (.inl (cyOff204, S.R__J.len a, .inr (.inr (.inr (.inr v))))) b = wPF cyI cyJ cyZ cyO28f5b cyOff204 { S with R__J := { S.R__J with row := va_up S.R__J.row a v } } b := by by_cases hb : b = a <;> first | (simp only [wPF, va_up_ne _ _ hb]; done) | (simp only [wPF, va_up, if_neg hb]; done) | simp [wPF, va_re, va_up, va_rf, hb, h]
theorem wPu_R__J_row (cyI : ClassId) (cyJ : ClassId) (cyZ : ClassId) (cyO28f5b : ClassId) (cyOff204 : ClassId) (X : va_W) (S : wPS) {A : Nat → Prop} {a k : Nat} (hD : va_D A (X ++ va_pl S.L (wPF cyI cyJ cyZ cyO28f5b cyOff204 S))) (hL : a ∈ S.L) (h : S.K a = 10) (hk : (X ++ va_pl S.L (wPF cyI cyJ cyZ cyO28f5b cyOff204 S))[k]? = some (a, wPF cyI cyJ cyZ cyO28f5b cyOff204 S a)) (v : Nat → Option Nat) : (X ++ va_pl S.L (wPF cyI cyJ cyZ cyO28f5b cyOff204 S)).set k (a, .inl (cyOff204, S.R__J.len a, .inr (.inr (.inr (.inr v))))) = X ++ va_pl S.L (wPF cyI cyJ cyZ cyO28f5b cyOff204 { S with R__J := { S.R__J with row := va_up S.R__J.row a v } }) := by
  rw [va_pl_set hD hL hk]
  exact congrArg (fun l => X ++ l) (va_pl_congr (wSt_R__J_row cyI cyJ cyZ cyO28f5b cyOff204 S h v))
theorem wNw_R__J (cyI : ClassId) (cyJ : ClassId) (cyZ : ClassId) (cyO28f5b : ClassId) (cyOff204 : ClassId) (S : wPS) (a : Nat) (z : Nat) (f : Nat → Option Nat) (b : Nat) : va_up (wPF cyI cyJ cyZ cyO28f5b cyOff204 S) a (.inl (cyOff204, z, .inr (.inr (.inr (.inr f))))) b = wPF cyI cyJ cyZ cyO28f5b cyOff204 { S with L := S.L ++ [a], K := va_up S.K a 10, R__J := { len := va_up S.R__J.len a z, row := va_up S.R__J.row a f } } b := by by_cases hb : b = a <;> first | (simp only [wPF, va_up_ne _ _ hb]; done) | (simp only [wPF, va_up, if_neg hb]; done) | simp [wPF, va_re, va_up, va_rf, hb]
/-! ===== END printed: names ===== -/
end

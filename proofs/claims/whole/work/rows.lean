section
-- ===== PART A: goes FIRST, ahead of the names: the tables' words, and 'selects' of the private methods out of them =====
/-- a private method of a class that the tables say can be made, by its rows of tables_1 -/
def lw_okq (q : MethodName × Nat) : Prop := (q.1.cls ≠ "java/lang/invoke/MethodHandle" ∧ q.1.cls ≠ "java/lang/invoke/VarHandle") ∧ Cond.instantiable q.1.cls q.2 ∈ tables_1 ∧ Cond.privateMethod q.1 ∈ tables_1 ∧ Cond.instanceMethod q.1 ∈ tables_1
theorem lw_p0 : lw_okq (⟨"DearVotes$Search", "listChoices", "(III)V"⟩, 10) := ⟨⟨by decide +kernel, by decide +kernel⟩, List.mem_of_getElem? (i := 63) (by decide +kernel), List.mem_of_getElem? (i := 287) (by decide +kernel), List.mem_of_getElem? (i := 288) (by decide +kernel)⟩
theorem lw_p1 : lw_okq (⟨"DearVotes$Search", "addChoice", "(III)V"⟩, 10) := ⟨⟨by decide +kernel, by decide +kernel⟩, List.mem_of_getElem? (i := 63) (by decide +kernel), List.mem_of_getElem? (i := 292) (by decide +kernel), List.mem_of_getElem? (i := 293) (by decide +kernel)⟩
theorem lw_p2 : lw_okq (⟨"DearVotes$Search", "keepIfBetter", "(II)V"⟩, 10) := ⟨⟨by decide +kernel, by decide +kernel⟩, List.mem_of_getElem? (i := 63) (by decide +kernel), List.mem_of_getElem? (i := 299) (by decide +kernel), List.mem_of_getElem? (i := 300) (by decide +kernel)⟩
theorem lw_p3 : lw_okq (⟨"DearVotes$Search", "triedIsLess", "()Z"⟩, 10) := ⟨⟨by decide +kernel, by decide +kernel⟩, List.mem_of_getElem? (i := 63) (by decide +kernel), List.mem_of_getElem? (i := 303) (by decide +kernel), List.mem_of_getElem? (i := 304) (by decide +kernel)⟩
theorem lw_p4 : lw_okq (⟨"DearVotes$Rounds", "noteVoices", "(I)V"⟩, 7) := ⟨⟨by decide +kernel, by decide +kernel⟩, List.mem_of_getElem? (i := 104) (by decide +kernel), List.mem_of_getElem? (i := 330) (by decide +kernel), List.mem_of_getElem? (i := 331) (by decide +kernel)⟩
theorem lw_p5 : lw_okq (⟨"DearVotes$Rounds", "doRound", "()I"⟩, 7) := ⟨⟨by decide +kernel, by decide +kernel⟩, List.mem_of_getElem? (i := 104) (by decide +kernel), List.mem_of_getElem? (i := 340) (by decide +kernel), List.mem_of_getElem? (i := 341) (by decide +kernel)⟩
theorem lw_p6 : lw_okq (⟨"DearVotes$Rounds", "judge", "(II)V"⟩, 7) := ⟨⟨by decide +kernel, by decide +kernel⟩, List.mem_of_getElem? (i := 104) (by decide +kernel), List.mem_of_getElem? (i := 347) (by decide +kernel), List.mem_of_getElem? (i := 348) (by decide +kernel)⟩
theorem lw_p7 : lw_okq (⟨"DearVotes$Rounds", "isSameTrail", "(II)Z"⟩, 7) := ⟨⟨by decide +kernel, by decide +kernel⟩, List.mem_of_getElem? (i := 104) (by decide +kernel), List.mem_of_getElem? (i := 351) (by decide +kernel), List.mem_of_getElem? (i := 352) (by decide +kernel)⟩
theorem lw_p8 : lw_okq (⟨"DearVotes$Fund", "fineProduct", "(III)J"⟩, 5) := ⟨⟨by decide +kernel, by decide +kernel⟩, List.mem_of_getElem? (i := 139) (by decide +kernel), List.mem_of_getElem? (i := 386) (by decide +kernel), List.mem_of_getElem? (i := 387) (by decide +kernel)⟩
theorem lw_p9 : lw_okq (⟨"DearVotesModel", "isPerson", "(I)Z"⟩, 25) := ⟨⟨by decide +kernel, by decide +kernel⟩, List.mem_of_getElem? (i := 470) (by decide +kernel), List.mem_of_getElem? (i := 575) (by decide +kernel), List.mem_of_getElem? (i := 576) (by decide +kernel)⟩
theorem lw_p10 : lw_okq (⟨"DearVotesModel", "isQuestion", "(I)Z"⟩, 25) := ⟨⟨by decide +kernel, by decide +kernel⟩, List.mem_of_getElem? (i := 470) (by decide +kernel), List.mem_of_getElem? (i := 579) (by decide +kernel), List.mem_of_getElem? (i := 580) (by decide +kernel)⟩
theorem lw_p11 : lw_okq (⟨"DearVotesModel", "costOf", "(I)I"⟩, 25) := ⟨⟨by decide +kernel, by decide +kernel⟩, List.mem_of_getElem? (i := 470) (by decide +kernel), List.mem_of_getElem? (i := 583) (by decide +kernel), List.mem_of_getElem? (i := 584) (by decide +kernel)⟩
theorem lw_p12 : lw_okq (⟨"DearVotesModel", "others", "(II)I"⟩, 25) := ⟨⟨by decide +kernel, by decide +kernel⟩, List.mem_of_getElem? (i := 470) (by decide +kernel), List.mem_of_getElem? (i := 607) (by decide +kernel), List.mem_of_getElem? (i := 608) (by decide +kernel)⟩
theorem lw_p13 : lw_okq (⟨"DearVotesModel", "resultOf", "(II)I"⟩, 25) := ⟨⟨by decide +kernel, by decide +kernel⟩, List.mem_of_getElem? (i := 470) (by decide +kernel), List.mem_of_getElem? (i := 615) (by decide +kernel), List.mem_of_getElem? (i := 616) (by decide +kernel)⟩
theorem lw_p14 : lw_okq (⟨"DearVotesModel", "gainOf", "(I)I"⟩, 25) := ⟨⟨by decide +kernel, by decide +kernel⟩, List.mem_of_getElem? (i := 470) (by decide +kernel), List.mem_of_getElem? (i := 625) (by decide +kernel), List.mem_of_getElem? (i := 626) (by decide +kernel)⟩
theorem lw_p15 : lw_okq (⟨"DearVotesModel", "find", "(I)V"⟩, 25) := ⟨⟨by decide +kernel, by decide +kernel⟩, List.mem_of_getElem? (i := 470) (by decide +kernel), List.mem_of_getElem? (i := 641) (by decide +kernel), List.mem_of_getElem? (i := 642) (by decide +kernel)⟩
def lw_privs_1 : List (MethodName × Nat) := [(⟨"DearVotes$Search", "listChoices", "(III)V"⟩, 10), (⟨"DearVotes$Search", "addChoice", "(III)V"⟩, 10), (⟨"DearVotes$Search", "keepIfBetter", "(II)V"⟩, 10), (⟨"DearVotes$Search", "triedIsLess", "()Z"⟩, 10), (⟨"DearVotes$Rounds", "noteVoices", "(I)V"⟩, 7), (⟨"DearVotes$Rounds", "doRound", "()I"⟩, 7), (⟨"DearVotes$Rounds", "judge", "(II)V"⟩, 7), (⟨"DearVotes$Rounds", "isSameTrail", "(II)Z"⟩, 7), (⟨"DearVotes$Fund", "fineProduct", "(III)J"⟩, 5), (⟨"DearVotesModel", "isPerson", "(I)Z"⟩, 25), (⟨"DearVotesModel", "isQuestion", "(I)Z"⟩, 25), (⟨"DearVotesModel", "costOf", "(I)I"⟩, 25), (⟨"DearVotesModel", "others", "(II)I"⟩, 25), (⟨"DearVotesModel", "resultOf", "(II)I"⟩, 25), (⟨"DearVotesModel", "gainOf", "(I)I"⟩, 25), (⟨"DearVotesModel", "find", "(I)V"⟩, 25)]
theorem lw_r1 : ∀ q ∈ lw_privs_1, lw_okq q := List.forall_mem_cons.mpr ⟨lw_p0, List.forall_mem_cons.mpr ⟨lw_p1, List.forall_mem_cons.mpr ⟨lw_p2, List.forall_mem_cons.mpr ⟨lw_p3, List.forall_mem_cons.mpr ⟨lw_p4, List.forall_mem_cons.mpr ⟨lw_p5, List.forall_mem_cons.mpr ⟨lw_p6, List.forall_mem_cons.mpr ⟨lw_p7, List.forall_mem_cons.mpr ⟨lw_p8, List.forall_mem_cons.mpr ⟨lw_p9, List.forall_mem_cons.mpr ⟨lw_p10, List.forall_mem_cons.mpr ⟨lw_p11, List.forall_mem_cons.mpr ⟨lw_p12, List.forall_mem_cons.mpr ⟨lw_p13, List.forall_mem_cons.mpr ⟨lw_p14, List.forall_mem_cons.mpr ⟨lw_p15, fun _ h => absurd h List.not_mem_nil⟩⟩⟩⟩⟩⟩⟩⟩⟩⟩⟩⟩⟩⟩⟩⟩
theorem lw_p16 : lw_okq (⟨"DearVotesModel", "end", "(II)V"⟩, 25) := ⟨⟨by decide +kernel, by decide +kernel⟩, List.mem_of_getElem? (i := 470) (by decide +kernel), List.mem_of_getElem? (i := 645) (by decide +kernel), List.mem_of_getElem? (i := 646) (by decide +kernel)⟩
theorem lw_p17 : lw_okq (⟨"DearVotesModel", "isBetter", "(II)Z"⟩, 25) := ⟨⟨by decide +kernel, by decide +kernel⟩, List.mem_of_getElem? (i := 470) (by decide +kernel), List.mem_of_getElem? (i := 649) (by decide +kernel), List.mem_of_getElem? (i := 650) (by decide +kernel)⟩
theorem lw_p18 : lw_okq (⟨"DearVotesModel", "adopt", "(I)V"⟩, 25) := ⟨⟨by decide +kernel, by decide +kernel⟩, List.mem_of_getElem? (i := 470) (by decide +kernel), List.mem_of_getElem? (i := 661) (by decide +kernel), List.mem_of_getElem? (i := 662) (by decide +kernel)⟩
theorem lw_p19 : lw_okq (⟨"DearVotesModel", "keep", "(I)V"⟩, 25) := ⟨⟨by decide +kernel, by decide +kernel⟩, List.mem_of_getElem? (i := 470) (by decide +kernel), List.mem_of_getElem? (i := 669) (by decide +kernel), List.mem_of_getElem? (i := 670) (by decide +kernel)⟩
theorem lw_p20 : lw_okq (⟨"DearVotesModel", "isAsBehind", "(I)Z"⟩, 25) := ⟨⟨by decide +kernel, by decide +kernel⟩, List.mem_of_getElem? (i := 470) (by decide +kernel), List.mem_of_getElem? (i := 673) (by decide +kernel), List.mem_of_getElem? (i := 674) (by decide +kernel)⟩
theorem lw_p21 : lw_okq (⟨"DearVotesModel", "isProject", "(I)Z"⟩, 25) := ⟨⟨by decide +kernel, by decide +kernel⟩, List.mem_of_getElem? (i := 470) (by decide +kernel), List.mem_of_getElem? (i := 689) (by decide +kernel), List.mem_of_getElem? (i := 690) (by decide +kernel)⟩
theorem lw_p22 : lw_okq (⟨"DearVotesModel", "matchedOf", "(IIZ)J"⟩, 25) := ⟨⟨by decide +kernel, by decide +kernel⟩, List.mem_of_getElem? (i := 470) (by decide +kernel), List.mem_of_getElem? (i := 703) (by decide +kernel), List.mem_of_getElem? (i := 704) (by decide +kernel)⟩
theorem lw_p23 : lw_okq (⟨"DearVotesModel", "likenessOf", "(II)I"⟩, 25) := ⟨⟨by decide +kernel, by decide +kernel⟩, List.mem_of_getElem? (i := 470) (by decide +kernel), List.mem_of_getElem? (i := 730) (by decide +kernel), List.mem_of_getElem? (i := 731) (by decide +kernel)⟩
theorem lw_p24 : lw_okq (⟨"DearVotesModel", "mix", "(J)V"⟩, 25) := ⟨⟨by decide +kernel, by decide +kernel⟩, List.mem_of_getElem? (i := 470) (by decide +kernel), List.mem_of_getElem? (i := 747) (by decide +kernel), List.mem_of_getElem? (i := 748) (by decide +kernel)⟩
def lw_privs_2 : List (MethodName × Nat) := [(⟨"DearVotesModel", "end", "(II)V"⟩, 25), (⟨"DearVotesModel", "isBetter", "(II)Z"⟩, 25), (⟨"DearVotesModel", "adopt", "(I)V"⟩, 25), (⟨"DearVotesModel", "keep", "(I)V"⟩, 25), (⟨"DearVotesModel", "isAsBehind", "(I)Z"⟩, 25), (⟨"DearVotesModel", "isProject", "(I)Z"⟩, 25), (⟨"DearVotesModel", "matchedOf", "(IIZ)J"⟩, 25), (⟨"DearVotesModel", "likenessOf", "(II)I"⟩, 25), (⟨"DearVotesModel", "mix", "(J)V"⟩, 25)]
theorem lw_r2 : ∀ q ∈ lw_privs_2, lw_okq q := List.forall_mem_cons.mpr ⟨lw_p16, List.forall_mem_cons.mpr ⟨lw_p17, List.forall_mem_cons.mpr ⟨lw_p18, List.forall_mem_cons.mpr ⟨lw_p19, List.forall_mem_cons.mpr ⟨lw_p20, List.forall_mem_cons.mpr ⟨lw_p21, List.forall_mem_cons.mpr ⟨lw_p22, List.forall_mem_cons.mpr ⟨lw_p23, List.forall_mem_cons.mpr ⟨lw_p24, fun _ h => absurd h List.not_mem_nil⟩⟩⟩⟩⟩⟩⟩⟩⟩
def lw_privs : List (MethodName × Nat) := lw_privs_1 ++ (lw_privs_2)
def lw_tbl : List Cond := k2_sels lw_privs ++ tables_1
theorem lw_privs_ok : ∀ q ∈ lw_privs, lw_okq q := by
  show ∀ q ∈ lw_privs_1 ++ (lw_privs_2), lw_okq q
  exact List.forall_mem_append.mpr ⟨lw_r1, lw_r2⟩
end
section
/-! ===== BEGIN words of one list among another's, by their places ===== -/
theorem goodIn_r {big : List Cond} (ws : List Cond) (ps : List Nat) (hp : ws = ps.filterMap (fun i => big[i]?)) (h : ws.all goodWord = true) : GoodIn big ws := by
  intro w hw
  have h1 := List.all_eq_true.mp h w hw
  rw [hp] at hw
  obtain ⟨i, -, hi⟩ := List.mem_filterMap.mp hw
  have hm : w ∈ big := by first | exact List.mem_of_getElem? hi | exact List.getElem?_mem hi
  exact ⟨hm, good_of_word h1⟩
theorem goodIn_app {big a b : List Cond} (ha : GoodIn big a) (hb : GoodIn big b) : GoodIn big (a ++ b) := fun w h => (List.mem_append.mp h).elim (ha w) (hb w)
theorem goodIn_ca {big a b : List Cond} {c : Cond} (ha : GoodIn big (c :: a)) (hb : GoodIn big b) : GoodIn big (c :: (a ++ b)) := fun w h => (List.mem_cons.mp h).elim (fun e => ha w (List.mem_cons.mpr (Or.inl e))) (fun h => (List.mem_append.mp h).elim (fun h => ha w (List.mem_cons.mpr (Or.inr h))) (hb w))
theorem goodIn_sub {big ws : List Cond} (hm : ∀ w ∈ ws, w ∈ big) (h : ws.all goodWord = true) : GoodIn big ws := fun w hw => ⟨hm w hw, good_of_word (List.all_eq_true.mp h w hw)⟩
/-! ===== END ===== -/

/-! ===== BEGIN new T[n][m]: the outer array a place, the inner ones among the pooled ===== -/
/-- f, but v at every address of l -/
def vr_up {α : Type} (f : Nat → α) (l : List Nat) (v : α) : Nat → α := fun a => if a ∈ l then v else f a
theorem vr_up_in {α : Type} {f : Nat → α} {l : List Nat} {v : α} {a : Nat} (h : a ∈ l) : vr_up f l v a = v := if_pos h
theorem vr_up_ne {α : Type} {f : Nat → α} {l : List Nat} {v : α} {a : Nat} (h : a ∉ l) : vr_up f l v a = f a := if_neg h
theorem vr_rows {L l : List Nat} {f : Nat → va_E} {e : va_E} (h : ∀ a, a ∈ l → a ∉ L) : va_pl L f ++ l.map (fun a => (a, e)) = va_pl (L ++ l) (vr_up f l e) := by
  unfold va_pl
  rw [List.map_append]
  congr 1
  · apply List.map_congr_left
    intro a ha
    rw [vr_up_ne (fun q => h a q ha)]
  · apply List.map_congr_left
    intro a ha
    rw [vr_up_in ha]
theorem vr_lay {X rows : va_W} {x : Nat × va_E} {pl : va_W} {D : va_G} {cl : List vw_C} {H : Heap} (hP : va_P D cl (((X ++ pl) ++ [x]) ++ rows) H) : va_P D cl ((X ++ [x]) ++ (pl ++ rows)) H := by
  rw [List.append_assoc (X ++ pl)] at hP
  have h := va_P.swap hP
  rw [← List.append_assoc X] at h
  have h2 := va_P.swap h
  rw [List.append_assoc (X ++ [x])] at h2
  exact h2
theorem vr_layD {X rows : va_W} {x : Nat × va_E} {pl : va_W} {A : Nat → Prop} (hD : va_D A (((X ++ pl) ++ [x]) ++ rows)) : va_D A ((X ++ [x]) ++ (pl ++ rows)) := by
  rw [List.append_assoc (X ++ pl)] at hD
  have h := va_D.swap hD
  rw [← List.append_assoc X] at h
  have h2 := va_D.swap h
  rw [List.append_assoc (X ++ [x])] at h2
  exact h2
theorem vr_outer (c : ClassId) (N h0 : Nat) : ∀ i : Nat, Jvm.Free.Multi.outerC c N h0 i = arrV c N (fun j => va_rf (if j < i then some (h0 + 1 + j) else none))
  | 0 => by
    show ({ cls := c, slots := Array.replicate N .null, vm := .none } : Cell) = _
    rw [arrV_new]
    refine congrArg (arrV c N) (funext fun j => ?_)
    simp [va_rf]
  | i + 1 => by
    show (Jvm.Free.Multi.outerC c N h0 i).setSlot i (.ref (h0 + 1 + i)) = _
    rw [vr_outer c N h0 i, arrV_store]
    refine congrArg (arrV c N) (funext fun j => ?_)
    by_cases e : j = i
    · subst e
      simp [updV, va_rf]
    · by_cases h : j < i
      · simp [updV, e, h, Nat.lt_succ_of_lt h]
      · simp [updV, e, h, show ¬ j < i + 1 by omega]
section VGM
variable {p : Program} {l : Launch} {e : Env} {R : Room} {s : State} {m : MethodId} {args : Array Value} {below : List Frame} {meth : Method} {c : Code} {H : Heap} {locs : List Loc} {cells slots : Nat} {Q : State → Prop}
variable {cc : ByteArray} {pc : Nat} {ls : Array Slot} {rest : List Value} {D : va_G} {cl : List vw_C} {A : Nat → Prop} {a : Nat} {tys : List (ClassId × FieldType)} {ws : va_W} {H0 : Heap}
theorem va_mna {X : va_W} {L : List Nat} {f : Nat → va_E} {cc : ByteArray} (hexec : p.tables.exec = Jvm.exec) (hb : c.code = cc) {own : String} {index : Nat} {ty : FieldType} {cy : ClassId} (hown : s.vm.findClass own = some m.cls) (hclink : (Cond.classLink own index ("[" ++ (FieldType.array ty).toString)).before args s = true) (hover : (Cond.arrayOver (.array ty)).before args s = true) (harr : (Cond.arrayClass ty).before args s = true) (hcy : s.vm.findClass (FieldType.array ty).toString = some cy)
    (hK : va_K D cl tys s) (hP : va_P D cl (X ++ va_pl L f) H) (hD : va_D A (X ++ va_pl L f)) (hS : va_S A H0 H locs) (hA : ∀ q, H0.size ≤ q → A q) {n k : Int32} {N' K' : Nat} {z : vp_A} (hn : ¬ n < 0) (hk : ¬ k < 0) (hN : n.toNatClampNeg = N') (hM : k.toNatClampNeg = K')
    (hb1 : N' * 4 ≤ 536870912) (hb2 : K' * componentBytes ty ≤ 536870912) (hb3 : K' ≤ 536870912) (hdf : fits ty (defaultValue ty) = true) (hdd : (defaultValue ty).isDefault = true) (hcells : cells + (1 + N') ≤ R.cells) (hslots : slots + (N' + N' * K') ≤ R.slots) (hz : ∀ c : ClassId, Jvm.Free.Multi.innerC c K' (defaultValue ty) = vp_cell c z) (hdg : decode cc pc = .ok (.multianewarray index 2, 4))
    (kk : ∀ (q : Nat) (r : Nat → Nat) (cA : ClassId) (H1 : Heap), (∀ i j : Nat, i < N' → j < N' → r i = r j → i = j) → (∀ i : Nat, i < N' → r i ∉ L) → va_K D cl (tys ++ [(cA, .array ty)]) s →
      va_P D cl ((X ++ [(q, .inl (cA, N', .inr (.inr (.inr (.inr (fun i => if i < N' then some (r i) else none))))))]) ++ va_pl (L ++ (List.range N').map r) (vr_up f ((List.range N').map r) (.inl (cy, z)))) H1 → va_D A ((X ++ [(q, .inl (cA, N', .inr (.inr (.inr (.inr (fun i => if i < N' then some (r i) else none))))))]) ++ va_pl (L ++ (List.range N').map r) (vr_up f ((List.range N').map r) (.inl (cy, z)))) → va_S A H0 H1 locs →
      W p l e R s m args below meth c H1 locs (cells + 1 + N') (slots + N' + N' * K') Q (F0 m (pc + 4) ls (.ref q :: rest))) : W p l e R s m args below meth c H locs cells slots Q (F0 m pc ls (.int k :: .int n :: rest)) := by
  subst hN
  subst hM
  intro T hT Xs
  obtain ⟨vm₁, cA, comp, -, fA, fC, hO, -, X', step⟩ := Xs.multianewarray2F hexec hown hclink hover harr (g := F0 m pc ls (.int k :: .int n :: rest)) rfl (by rw [hb]; exact hdg) rfl hn hk hb1 hb2 hb3 hdf hdd hcells hslots
  have ec : some cy = some comp := hcy.symm.trans fC
  cases ec
  generalize hF : Jvm.Free.Multi.fill (T.setVm vm₁) cA cy n.toNatClampNeg k.toNatClampNeg (defaultValue ty) n.toNatClampNeg = F at X' step
  have hTh : (T.setVm vm₁).heap = H := hT
  obtain ⟨f1, f2, -, -⟩ := Jvm.Free.Multi.fill_facts (T.setVm vm₁) cA cy n.toNatClampNeg k.toNatClampNeg (defaultValue ty) n.toNatClampNeg
  rw [hF, hTh] at f1 f2
  have hold : ∀ x : Nat, x < H.size → F.heap[x]? = H[x]? := fun x hx => by
    have := Jvm.Free.Multi.fill_old (T.setVm vm₁) cA cy n.toNatClampNeg k.toNatClampNeg (defaultValue ty) (a := x) (by rw [hTh]; exact hx) n.toNatClampNeg
    rw [hF, hTh] at this
    exact this
  have hrow : ∀ j : Nat, j < n.toNatClampNeg → F.heap[H.size + 1 + j]? = some (vp_cell cy z) := fun j hj => by
    have := Jvm.Free.Multi.fill_inner (T.setVm vm₁) cA cy n.toNatClampNeg k.toNatClampNeg (defaultValue ty) n.toNatClampNeg j hj
    rw [hF, hTh, hz] at this
    exact this
  have hout : Jvm.Free.Multi.outerC cA n.toNatClampNeg H.size n.toNatClampNeg = vp_cell cA (n.toNatClampNeg, .inr (.inr (.inr (.inr (fun i => if i < n.toNatClampNeg then some (H.size + 1 + i) else none))))) := by
    rw [vp_cell_q]
    exact vr_outer cA n.toNatClampNeg H.size n.toNatClampNeg
  rw [hout] at f2
  have hlt : ∀ a, a ∈ L → a < H.size := fun a ha => by
    obtain ⟨k9, hk9⟩ := va_pl_get (X := X) (f := f) ha
    exact (hP k9 _ hk9).lt
  have hnl : ∀ i : Nat, i < n.toNatClampNeg → H.size + 1 + i ∉ L := fun i _ h => by
    have := hlt _ h
    omega
  have hnm : ∀ a, a ∈ (List.range n.toNatClampNeg).map (fun i => H.size + 1 + i) → a ∉ L := fun a ha h => by
    obtain ⟨i, -, rfl⟩ := List.mem_map.mp ha
    have := hlt _ h
    omega
  have hP0 : va_P D cl (X ++ va_pl L f) F.heap := hP.kept (fun k9 x hx => hold x.1 ((hP k9 x hx).lt))
  have hP1 : va_P D cl ((X ++ va_pl L f) ++ [(H.size, .inl (cA, n.toNatClampNeg, .inr (.inr (.inr (.inr (fun i => if i < n.toNatClampNeg then some (H.size + 1 + i) else none))))))]) F.heap := hP0.app (fun k9 x hx => by
    have h0 : k9 < 1 := (List.getElem?_eq_some_iff.mp hx).1
    rw [show k9 = 0 by omega] at hx
    cases hx
    exact f2)
  have hP2 : va_P D cl (((X ++ va_pl L f) ++ [(H.size, .inl (cA, n.toNatClampNeg, .inr (.inr (.inr (.inr (fun i => if i < n.toNatClampNeg then some (H.size + 1 + i) else none))))))]) ++ ((List.range n.toNatClampNeg).map (fun i => H.size + 1 + i)).map (fun a => (a, .inl (cy, z)))) F.heap := hP1.app (fun k9 x hx => by
    obtain ⟨a, ha, rfl⟩ := List.mem_map.mp (List.mem_of_getElem? hx)
    obtain ⟨i, hi, rfl⟩ := List.mem_map.mp ha
    exact hrow i (List.mem_range.mp hi))
  have hD2 : va_D A (((X ++ va_pl L f) ++ [(H.size, .inl (cA, n.toNatClampNeg, .inr (.inr (.inr (.inr (fun i => if i < n.toNatClampNeg then some (H.size + 1 + i) else none))))))]) ++ ((List.range n.toNatClampNeg).map (fun i => H.size + 1 + i)).map (fun a => (a, .inl (cy, z)))) := by
    have hD1 := hD.push (e := .inl (cA, n.toNatClampNeg, .inr (.inr (.inr (.inr (fun i => if i < n.toNatClampNeg then some (H.size + 1 + i) else none)))))) hP rfl (hA _ hS.1)
    generalize hW1 : (X ++ va_pl L f) ++ [(H.size, .inl (cA, n.toNatClampNeg, .inr (.inr (.inr (.inr (fun i => if i < n.toNatClampNeg then some (H.size + 1 + i) else none))))))] = W1 at hD1 hP1 ⊢
    have hle : ∀ (k9 : Nat) (x : Nat × va_E), W1[k9]? = some x → x.1 ≤ H.size := fun k9 x hx => by
      rw [← hW1] at hx
      by_cases hl : k9 < (X ++ va_pl L f).length
      · rw [List.getElem?_append_left hl] at hx
        exact Nat.le_of_lt ((hP k9 x hx).lt)
      · rw [List.getElem?_append_right (by omega)] at hx
        have h0 : k9 - (X ++ va_pl L f).length < 1 := (List.getElem?_eq_some_iff.mp hx).1
        rw [show k9 - (X ++ va_pl L f).length = 0 by omega] at hx
        cases hx
        exact Nat.le_refl _
    have hr : ∀ (k9 : Nat) (x : Nat × va_E), (((List.range n.toNatClampNeg).map (fun i => H.size + 1 + i)).map (fun a => ((a, .inl (cy, z)) : Nat × va_E)))[k9]? = some x → x.1 = H.size + 1 + k9 := fun k9 x hx => by
      rw [List.getElem?_map, List.getElem?_map] at hx
      by_cases h9 : k9 < n.toNatClampNeg
      · rw [List.getElem?_range h9] at hx
        cases hx
        rfl
      · have hn0 : (List.range n.toNatClampNeg)[k9]? = none := List.getElem?_eq_none (by rw [List.length_range]; omega)
        rw [hn0] at hx
        cases hx
    refine ⟨fun i j x y hi hj hxy => ?_, fun k9 x hx => ?_⟩
    · by_cases h1 : i < W1.length <;> by_cases h2 : j < W1.length
      · rw [List.getElem?_append_left h1] at hi
        rw [List.getElem?_append_left h2] at hj
        exact hD1.1 i j x y hi hj hxy
      · rw [List.getElem?_append_left h1] at hi
        rw [List.getElem?_append_right (by omega)] at hj
        have := hle _ _ hi
        have := hr _ _ hj
        omega
      · rw [List.getElem?_append_right (by omega)] at hi
        rw [List.getElem?_append_left h2] at hj
        have := hle _ _ hj
        have := hr _ _ hi
        omega
      · rw [List.getElem?_append_right (by omega)] at hi hj
        have := hr _ _ hi
        have := hr _ _ hj
        omega
    · by_cases h1 : k9 < W1.length
      · rw [List.getElem?_append_left h1] at hx
        exact hD1.2 k9 x hx
      · rw [List.getElem?_append_right (by omega)] at hx
        have := hr _ _ hx
        exact hA _ (by have := hS.1; omega)
  have hAr : ArrOfT s cA (.array ty) := fun N9 z9 => by
    obtain ⟨-, k9, hk9, cm9, hkk9⟩ := (hO 0 0 0).1
    exact ⟨(fun q hq => by cases hq), k9, hk9, cm9, hkk9⟩
  have hK2 : va_K D cl (tys ++ [(cA, .array ty)]) s := ⟨hK.1, fun k9 x hx => by
    by_cases hl : k9 < tys.length
    · rw [List.getElem?_append_left hl] at hx
      exact hK.2 k9 x hx
    · rw [List.getElem?_append_right (by omega)] at hx
      have h0 : k9 - tys.length < 1 := (List.getElem?_eq_some_iff.mp hx).1
      rw [show k9 - tys.length = 0 by omega] at hx
      cases hx
      exact ⟨hAr, fA⟩⟩
  obtain ⟨t, a1, b1⟩ := kk H.size (fun i => H.size + 1 + i) cA F.heap (fun i j _ _ h => by have h9 : H.size + 1 + i = H.size + 1 + j := h; omega) hnl hK2 (by rw [← vr_rows hnm]; exact vr_lay hP2) (by rw [← vr_rows hnm]; exact vr_layD hD2) ⟨by rw [f1]; have := hS.1; omega, fun x h1 h2 => (hold x (Nat.lt_of_lt_of_le h1 hS.1)).trans (hS.2.1 x h1 h2), hS.2.2⟩ F rfl X'
  refine ⟨t, step t ?_, b1⟩
  have e : T.heap.size = H.size := by rw [hT]
  rw [e]
  exact a1
end VGM
/-! ===== END ===== -/

/-! ===== BEGIN printed: names, fields, word lists, decode rows ===== -/
def RX0 : String := "DearVotes$Fund"
def TX0 : u_T := fun k => match k with
  | 0 => ("DearVotes$Fund", "house", "LDearVotes$House;", true)
  | 1 => ("DearVotes$Fund", "projects", "I", false)
  | 2 => ("DearVotes$Fund", "gifts", "[[I", true)
  | 3 => ("DearVotes$Fund", "bonds", "[[I", true)
  | _ => ("DearVotes$Fund", "lows", "[J", true)
def tyX0 : Nat → FieldType := fun k => match k with
  | 0 => .object "DearVotes$House"
  | 1 => .int
  | 2 => .array (.array .int)
  | 3 => .array (.array .int)
  | _ => .array .long
abbrev wsX00 : List Cond := u_ws RX0 TX0 5
theorem nmX0 : ∀ a, a < 5 → ∀ b, b < 5 → a ≠ b → (TX0 a).2.1 ≠ (TX0 b).2.1 := by decide +kernel
theorem tyX0_ok : ∀ k, k < 5 → parseFieldDescriptor (TX0 k).2.2.1 = some (tyX0 k) := by decide +kernel
abbrev cX0_init : ByteArray := prog_2_method_1_code
def yX0_init : MethodName := ⟨RX0, "<init>", "(LDearVotes$House;)V"⟩
abbrev cX0_hasProject : ByteArray := prog_2_method_2_code
def yX0_hasProject : MethodName := ⟨RX0, "hasProject", "(I)Z"⟩
abbrev cX0_matchedLow : ByteArray := prog_2_method_3_code
def yX0_matchedLow : MethodName := ⟨RX0, "matchedLow", "(I)J"⟩
abbrev cX0_matchedUndamped : ByteArray := prog_2_method_4_code
def yX0_matchedUndamped : MethodName := ⟨RX0, "matchedUndamped", "(I)J"⟩
abbrev cX0_matchedHigh : ByteArray := prog_2_method_5_code
def yX0_matchedHigh : MethodName := ⟨RX0, "matchedHigh", "(I)J"⟩
abbrev cX0_fineProduct : ByteArray := prog_2_method_6_code
def yX0_fineProduct : MethodName := ⟨RX0, "fineProduct", "(III)J"⟩
abbrev cX0_root : ByteArray := prog_2_method_7_code
def yX0_root : MethodName := ⟨RX0, "root", "(J)J"⟩
abbrev cX0_rootAbove : ByteArray := prog_2_method_8_code
def yX0_rootAbove : MethodName := ⟨RX0, "rootAbove", "(J)J"⟩
abbrev cX0_shareOf : ByteArray := prog_2_method_9_code
def yX0_shareOf : MethodName := ⟨RX0, "shareOf", "(IJ)J"⟩
abbrev cX0_digestPerson : ByteArray := prog_2_method_10_code
def yX0_digestPerson : MethodName := ⟨RX0, "digestPerson", "(JI)J"⟩
def RX1 : String := "DearVotes$House"
def TX1 : u_T := fun k => match k with
  | 0 => ("DearVotes$House", "people", "I", false)
  | 1 => ("DearVotes$House", "questions", "I", false)
  | 2 => ("DearVotes$House", "seed", "I", false)
  | 3 => ("DearVotes$House", "budgets", "[I", true)
  | 4 => ("DearVotes$House", "present", "[Z", true)
  | 5 => ("DearVotes$House", "voices", "[[I", true)
  | _ => ("DearVotes$House", "worths", "[[I", true)
def tyX1 : Nat → FieldType := fun k => match k with
  | 0 => .int
  | 1 => .int
  | 2 => .int
  | 3 => .array .int
  | 4 => .array .boolean
  | 5 => .array (.array .int)
  | _ => .array (.array .int)
abbrev wsX10 : List Cond := u_ws RX1 TX1 7
theorem nmX1 : ∀ a, a < 7 → ∀ b, b < 7 → a ≠ b → (TX1 a).2.1 ≠ (TX1 b).2.1 := by decide +kernel
theorem tyX1_ok : ∀ k, k < 7 → parseFieldDescriptor (TX1 k).2.2.1 = some (tyX1 k) := by decide +kernel
abbrev cX1_init : ByteArray := prog_3_method_1_code
def yX1_init : MethodName := ⟨RX1, "<init>", "()V"⟩
abbrev cX1_hasPerson : ByteArray := prog_3_method_2_code
def yX1_hasPerson : MethodName := ⟨RX1, "hasPerson", "(I)Z"⟩
abbrev cX1_hasQuestion : ByteArray := prog_3_method_3_code
def yX1_hasQuestion : MethodName := ⟨RX1, "hasQuestion", "(I)Z"⟩
abbrev cX1_addPerson : ByteArray := prog_3_method_4_code
def yX1_addPerson : MethodName := ⟨RX1, "addPerson", "(I)I"⟩
abbrev cX1_peoplePresent : ByteArray := prog_3_method_5_code
def yX1_peoplePresent : MethodName := ⟨RX1, "peoplePresent", "()I"⟩
abbrev cX1_costOf : ByteArray := prog_3_method_6_code
def yX1_costOf : MethodName := ⟨RX1, "costOf", "(I)I"⟩
abbrev cX1_countOf : ByteArray := prog_3_method_7_code
def yX1_countOf : MethodName := ⟨RX1, "countOf", "(I)I"⟩
abbrev cX1_countWithout : ByteArray := prog_3_method_8_code
def yX1_countWithout : MethodName := ⟨RX1, "countWithout", "(II)I"⟩
abbrev cX1_resultOf : ByteArray := prog_3_method_9_code
def yX1_resultOf : MethodName := ⟨RX1, "resultOf", "(II)I"⟩
abbrev cX1_gainOf : ByteArray := prog_3_method_10_code
def yX1_gainOf : MethodName := ⟨RX1, "gainOf", "(I)I"⟩
abbrev cX1_gainBy : ByteArray := prog_3_method_11_code
def yX1_gainBy : MethodName := ⟨RX1, "gainBy", "(II)I"⟩
abbrev cX1_swingsOf : ByteArray := prog_3_method_12_code
def yX1_swingsOf : MethodName := ⟨RX1, "swingsOf", "(I)I"⟩
abbrev cX1_likenessOf : ByteArray := prog_3_method_13_code
def yX1_likenessOf : MethodName := ⟨RX1, "likenessOf", "(II)I"⟩
abbrev cX1_groupOf : ByteArray := prog_3_method_14_code
def yX1_groupOf : MethodName := ⟨RX1, "groupOf", "(II)I"⟩
abbrev cX1_alikeTo : ByteArray := prog_3_method_15_code
def yX1_alikeTo : MethodName := ⟨RX1, "alikeTo", "(II)I"⟩
abbrev cX1_voicesInOne : ByteArray := prog_3_method_16_code
def yX1_voicesInOne : MethodName := ⟨RX1, "voicesInOne", "(I)J"⟩
abbrev cX1_digestPerson : ByteArray := prog_3_method_17_code
def yX1_digestPerson : MethodName := ⟨RX1, "digestPerson", "(JI)J"⟩
def RX2 : String := "DearVotes$Rounds"
def TX2 : u_T := fun k => match k with
  | 0 => ("DearVotes$Rounds", "house", "LDearVotes$House;", true)
  | 1 => ("DearVotes$Rounds", "search", "LDearVotes$Search;", true)
  | 2 => ("DearVotes$Rounds", "trail", "[[J", true)
  | 3 => ("DearVotes$Rounds", "doneEver", "I", false)
  | 4 => ("DearVotes$Rounds", "changesEver", "I", false)
  | 5 => ("DearVotes$Rounds", "ending", "I", false)
  | _ => ("DearVotes$Rounds", "ringLength", "I", false)
def tyX2 : Nat → FieldType := fun k => match k with
  | 0 => .object "DearVotes$House"
  | 1 => .object "DearVotes$Search"
  | 2 => .array (.array .long)
  | 3 => .int
  | 4 => .int
  | 5 => .int
  | _ => .int
abbrev wsX20 : List Cond := u_ws RX2 TX2 7
theorem nmX2 : ∀ a, a < 7 → ∀ b, b < 7 → a ≠ b → (TX2 a).2.1 ≠ (TX2 b).2.1 := by decide +kernel
theorem tyX2_ok : ∀ k, k < 7 → parseFieldDescriptor (TX2 k).2.2.1 = some (tyX2 k) := by decide +kernel
abbrev cX2_init : ByteArray := prog_4_method_1_code
def yX2_init : MethodName := ⟨RX2, "<init>", "(LDearVotes$House;LDearVotes$Search;)V"⟩
abbrev cX2_playAtMost : ByteArray := prog_4_method_2_code
def yX2_playAtMost : MethodName := ⟨RX2, "playAtMost", "(I)I"⟩
abbrev cX2_doRound : ByteArray := prog_4_method_3_code
def yX2_doRound : MethodName := ⟨RX2, "doRound", "()I"⟩
abbrev cX2_noteVoices : ByteArray := prog_4_method_4_code
def yX2_noteVoices : MethodName := ⟨RX2, "noteVoices", "(I)V"⟩
abbrev cX2_judge : ByteArray := prog_4_method_5_code
def yX2_judge : MethodName := ⟨RX2, "judge", "(II)V"⟩
abbrev cX2_isSameTrail : ByteArray := prog_4_method_6_code
def yX2_isSameTrail : MethodName := ⟨RX2, "isSameTrail", "(II)Z"⟩
def RX3 : String := "DearVotes$Search"
def TX3 : u_T := fun k => match k with
  | 0 => ("DearVotes$Search", "house", "LDearVotes$House;", true)
  | 1 => ("DearVotes$Search", "choices", "[I", true)
  | 2 => ("DearVotes$Search", "choiceVoices", "[[I", true)
  | 3 => ("DearVotes$Search", "choiceGains", "[[I", true)
  | 4 => ("DearVotes$Search", "gainAhead", "[I", true)
  | 5 => ("DearVotes$Search", "tried", "[I", true)
  | 6 => ("DearVotes$Search", "found", "[I", true)
  | 7 => ("DearVotes$Search", "foundGain", "I", false)
  | 8 => ("DearVotes$Search", "foundCost", "I", false)
  | _ => ("DearVotes$Search", "budget", "I", false)
def tyX3 : Nat → FieldType := fun k => match k with
  | 0 => .object "DearVotes$House"
  | 1 => .array .int
  | 2 => .array (.array .int)
  | 3 => .array (.array .int)
  | 4 => .array .int
  | 5 => .array .int
  | 6 => .array .int
  | 7 => .int
  | 8 => .int
  | _ => .int
abbrev wsX30 : List Cond := u_ws RX3 TX3 10
theorem nmX3 : ∀ a, a < 10 → ∀ b, b < 10 → a ≠ b → (TX3 a).2.1 ≠ (TX3 b).2.1 := by decide +kernel
theorem tyX3_ok : ∀ k, k < 10 → parseFieldDescriptor (TX3 k).2.2.1 = some (tyX3 k) := by decide +kernel
abbrev cX3_init : ByteArray := prog_5_method_1_code
def yX3_init : MethodName := ⟨RX3, "<init>", "(LDearVotes$House;)V"⟩
abbrev cX3_findFor : ByteArray := prog_5_method_2_code
def yX3_findFor : MethodName := ⟨RX3, "findFor", "(I)V"⟩
abbrev cX3_giveTo : ByteArray := prog_5_method_3_code
def yX3_giveTo : MethodName := ⟨RX3, "giveTo", "(I)V"⟩
abbrev cX3_listChoices : ByteArray := prog_5_method_4_code
def yX3_listChoices : MethodName := ⟨RX3, "listChoices", "(III)V"⟩
abbrev cX3_addChoice : ByteArray := prog_5_method_5_code
def yX3_addChoice : MethodName := ⟨RX3, "addChoice", "(III)V"⟩
abbrev cX3_tryFrom : ByteArray := prog_5_method_6_code
def yX3_tryFrom : MethodName := ⟨RX3, "tryFrom", "(LDearVotes$Search;III)V"⟩
abbrev cX3_keepIfBetter : ByteArray := prog_5_method_7_code
def yX3_keepIfBetter : MethodName := ⟨RX3, "keepIfBetter", "(II)V"⟩
abbrev cX3_triedIsLess : ByteArray := prog_5_method_8_code
def yX3_triedIsLess : MethodName := ⟨RX3, "triedIsLess", "()Z"⟩
def RX4 : String := "DearVotes"
def TX4 : u_T := fun k => match k with
  | 0 => ("DearVotes", "house", "LDearVotes$House;", true)
  | 1 => ("DearVotes", "search", "LDearVotes$Search;", true)
  | 2 => ("DearVotes", "rounds", "LDearVotes$Rounds;", true)
  | _ => ("DearVotes", "fund", "LDearVotes$Fund;", true)
def tyX4 : Nat → FieldType := fun k => match k with
  | 0 => .object "DearVotes$House"
  | 1 => .object "DearVotes$Search"
  | 2 => .object "DearVotes$Rounds"
  | _ => .object "DearVotes$Fund"
abbrev wsX40 : List Cond := u_ws RX4 TX4 4
theorem nmX4 : ∀ a, a < 4 → ∀ b, b < 4 → a ≠ b → (TX4 a).2.1 ≠ (TX4 b).2.1 := by decide +kernel
theorem tyX4_ok : ∀ k, k < 4 → parseFieldDescriptor (TX4 k).2.2.1 = some (tyX4 k) := by decide +kernel
abbrev cX4_init : ByteArray := prog_1_method_1_code
def yX4_init : MethodName := ⟨RX4, "<init>", "()V"⟩
abbrev cX4_person : ByteArray := prog_1_method_2_code
def yX4_person : MethodName := ⟨RX4, "person", "(I)I"⟩
abbrev cX4_question : ByteArray := prog_1_method_3_code
def yX4_question : MethodName := ⟨RX4, "question", "()I"⟩
abbrev cX4_project : ByteArray := prog_1_method_4_code
def yX4_project : MethodName := ⟨RX4, "project", "()I"⟩
abbrev cX4_seed : ByteArray := prog_1_method_5_code
def yX4_seed : MethodName := ⟨RX4, "seed", "(I)I"⟩
abbrev cX4_vote : ByteArray := prog_1_method_6_code
def yX4_vote : MethodName := ⟨RX4, "vote", "(III)I"⟩
abbrev cX4_worth : ByteArray := prog_1_method_7_code
def yX4_worth : MethodName := ⟨RX4, "worth", "(III)I"⟩
abbrev cX4_here : ByteArray := prog_1_method_8_code
def yX4_here : MethodName := ⟨RX4, "here", "(IZ)I"⟩
abbrev cX4_voices : ByteArray := prog_1_method_9_code
def yX4_voices : MethodName := ⟨RX4, "voices", "(II)I"⟩
abbrev cX4_cost : ByteArray := prog_1_method_10_code
def yX4_cost : MethodName := ⟨RX4, "cost", "(I)I"⟩
abbrev cX4_total : ByteArray := prog_1_method_11_code
def yX4_total : MethodName := ⟨RX4, "total", "(I)I"⟩
abbrev cX4_result : ByteArray := prog_1_method_12_code
def yX4_result : MethodName := ⟨RX4, "result", "(I)I"⟩
abbrev cX4_gain : ByteArray := prog_1_method_13_code
def yX4_gain : MethodName := ⟨RX4, "gain", "(I)I"⟩
abbrev cX4_swings : ByteArray := prog_1_method_14_code
def yX4_swings : MethodName := ⟨RX4, "swings", "(I)I"⟩
abbrev cX4_best : ByteArray := prog_1_method_15_code
def yX4_best : MethodName := ⟨RX4, "best", "(I)I"⟩
abbrev cX4_answer : ByteArray := prog_1_method_16_code
def yX4_answer : MethodName := ⟨RX4, "answer", "(II)I"⟩
abbrev cX4_take : ByteArray := prog_1_method_17_code
def yX4_take : MethodName := ⟨RX4, "take", "(I)I"⟩
abbrev cX4_play : ByteArray := prog_1_method_18_code
def yX4_play : MethodName := ⟨RX4, "play", "(I)I"⟩
abbrev cX4_ended : ByteArray := prog_1_method_19_code
def yX4_ended : MethodName := ⟨RX4, "ended", "()I"⟩
abbrev cX4_ring : ByteArray := prog_1_method_20_code
def yX4_ring : MethodName := ⟨RX4, "ring", "()I"⟩
abbrev cX4_gift : ByteArray := prog_1_method_21_code
def yX4_gift : MethodName := ⟨RX4, "gift", "(III)I"⟩
abbrev cX4_bond : ByteArray := prog_1_method_22_code
def yX4_bond : MethodName := ⟨RX4, "bond", "(III)I"⟩
abbrev cX4_matched : ByteArray := prog_1_method_23_code
def yX4_matched : MethodName := ⟨RX4, "matched", "(II)J"⟩
abbrev cX4_share : ByteArray := prog_1_method_24_code
def yX4_share : MethodName := ⟨RX4, "share", "(IJ)J"⟩
abbrev cX4_damped : ByteArray := prog_1_method_25_code
def yX4_damped : MethodName := ⟨RX4, "damped", "(I)J"⟩
abbrev cX4_likeness : ByteArray := prog_1_method_26_code
def yX4_likeness : MethodName := ⟨RX4, "likeness", "(II)I"⟩
abbrev cX4_group : ByteArray := prog_1_method_27_code
def yX4_group : MethodName := ⟨RX4, "group", "(II)I"⟩
abbrev cX4_count : ByteArray := prog_1_method_28_code
def yX4_count : MethodName := ⟨RX4, "count", "(I)I"⟩
abbrev cX4_digest : ByteArray := prog_1_method_29_code
def yX4_digest : MethodName := ⟨RX4, "digest", "()J"⟩
abbrev cX4_isWithin : ByteArray := prog_1_method_30_code
def yX4_isWithin : MethodName := ⟨RX4, "isWithin", "(III)Z"⟩
def RX5 : String := "DearVotesModel"
def TX5 : u_T := fun k => match k with
  | 0 => ("DearVotesModel", "people", "I", false)
  | 1 => ("DearVotesModel", "questions", "I", false)
  | 2 => ("DearVotesModel", "projects", "I", false)
  | 3 => ("DearVotesModel", "seed", "I", false)
  | 4 => ("DearVotesModel", "budgets", "[I", true)
  | 5 => ("DearVotesModel", "isHere", "[Z", true)
  | 6 => ("DearVotesModel", "votes", "[I", true)
  | 7 => ("DearVotesModel", "worths", "[I", true)
  | 8 => ("DearVotesModel", "gifts", "[I", true)
  | 9 => ("DearVotesModel", "bonds", "[I", true)
  | 10 => ("DearVotesModel", "rounds", "I", false)
  | 11 => ("DearVotesModel", "changes", "I", false)
  | 12 => ("DearVotesModel", "ended", "I", false)
  | 13 => ("DearVotesModel", "ring", "I", false)
  | 14 => ("DearVotesModel", "cheapest", "[I", true)
  | 15 => ("DearVotesModel", "may", "[Z", true)
  | 16 => ("DearVotesModel", "bestVoices", "[I", true)
  | 17 => ("DearVotesModel", "tryVoices", "[I", true)
  | 18 => ("DearVotesModel", "bestGain", "I", false)
  | 19 => ("DearVotesModel", "bestCost", "I", false)
  | 20 => ("DearVotesModel", "hasBest", "Z", false)
  | 21 => ("DearVotesModel", "past", "[I", true)
  | 22 => ("DearVotesModel", "parts", "[J", true)
  | 23 => ("DearVotesModel", "rests", "[J", true)
  | _ => ("DearVotesModel", "h", "J", false)
def tyX5 : Nat → FieldType := fun k => match k with
  | 0 => .int
  | 1 => .int
  | 2 => .int
  | 3 => .int
  | 4 => .array .int
  | 5 => .array .boolean
  | 6 => .array .int
  | 7 => .array .int
  | 8 => .array .int
  | 9 => .array .int
  | 10 => .int
  | 11 => .int
  | 12 => .int
  | 13 => .int
  | 14 => .array .int
  | 15 => .array .boolean
  | 16 => .array .int
  | 17 => .array .int
  | 18 => .int
  | 19 => .int
  | 20 => .boolean
  | 21 => .array .int
  | 22 => .array .long
  | 23 => .array .long
  | _ => .long
abbrev wsX50 : List Cond := u_ws RX5 TX5 25
theorem nmX5 : ∀ a, a < 25 → ∀ b, b < 25 → a ≠ b → (TX5 a).2.1 ≠ (TX5 b).2.1 := by decide +kernel
theorem tyX5_ok : ∀ k, k < 25 → parseFieldDescriptor (TX5 k).2.2.1 = some (tyX5 k) := by decide +kernel
abbrev cX5_init : ByteArray := prog_7_method_1_code
def yX5_init : MethodName := ⟨RX5, "<init>", "()V"⟩
abbrev cX5_in : ByteArray := prog_7_method_3_code
def yX5_in : MethodName := ⟨RX5, "in", "(III)Z"⟩
abbrev cX5_isPerson : ByteArray := prog_7_method_4_code
def yX5_isPerson : MethodName := ⟨RX5, "isPerson", "(I)Z"⟩
abbrev cX5_isQuestion : ByteArray := prog_7_method_5_code
def yX5_isQuestion : MethodName := ⟨RX5, "isQuestion", "(I)Z"⟩
abbrev cX5_isProject : ByteArray := prog_7_method_6_code
def yX5_isProject : MethodName := ⟨RX5, "isProject", "(I)Z"⟩
abbrev cX5_person : ByteArray := prog_7_method_7_code
def yX5_person : MethodName := ⟨RX5, "person", "(I)I"⟩
abbrev cX5_question : ByteArray := prog_7_method_8_code
def yX5_question : MethodName := ⟨RX5, "question", "()I"⟩
abbrev cX5_project : ByteArray := prog_7_method_9_code
def yX5_project : MethodName := ⟨RX5, "project", "()I"⟩
abbrev cX5_seed : ByteArray := prog_7_method_10_code
def yX5_seed : MethodName := ⟨RX5, "seed", "(I)I"⟩
abbrev cX5_costOf : ByteArray := prog_7_method_11_code
def yX5_costOf : MethodName := ⟨RX5, "costOf", "(I)I"⟩
abbrev cX5_vote : ByteArray := prog_7_method_12_code
def yX5_vote : MethodName := ⟨RX5, "vote", "(III)I"⟩
abbrev cX5_worth : ByteArray := prog_7_method_13_code
def yX5_worth : MethodName := ⟨RX5, "worth", "(III)I"⟩
abbrev cX5_here : ByteArray := prog_7_method_14_code
def yX5_here : MethodName := ⟨RX5, "here", "(IZ)I"⟩
abbrev cX5_voices : ByteArray := prog_7_method_15_code
def yX5_voices : MethodName := ⟨RX5, "voices", "(II)I"⟩
abbrev cX5_cost : ByteArray := prog_7_method_16_code
def yX5_cost : MethodName := ⟨RX5, "cost", "(I)I"⟩
abbrev cX5_others : ByteArray := prog_7_method_17_code
def yX5_others : MethodName := ⟨RX5, "others", "(II)I"⟩
abbrev cX5_total : ByteArray := prog_7_method_18_code
def yX5_total : MethodName := ⟨RX5, "total", "(I)I"⟩
abbrev cX5_resultOf : ByteArray := prog_7_method_19_code
def yX5_resultOf : MethodName := ⟨RX5, "resultOf", "(II)I"⟩
abbrev cX5_result : ByteArray := prog_7_method_20_code
def yX5_result : MethodName := ⟨RX5, "result", "(I)I"⟩
abbrev cX5_gainBy : ByteArray := prog_7_method_21_code
def yX5_gainBy : MethodName := ⟨RX5, "gainBy", "(II)I"⟩
abbrev cX5_gainOf : ByteArray := prog_7_method_22_code
def yX5_gainOf : MethodName := ⟨RX5, "gainOf", "(I)I"⟩
abbrev cX5_gain : ByteArray := prog_7_method_23_code
def yX5_gain : MethodName := ⟨RX5, "gain", "(I)I"⟩
abbrev cX5_swings : ByteArray := prog_7_method_24_code
def yX5_swings : MethodName := ⟨RX5, "swings", "(I)I"⟩
abbrev cX5_end : ByteArray := prog_7_method_25_code
def yX5_end : MethodName := ⟨RX5, "end", "(II)V"⟩
abbrev cX5_isBetter : ByteArray := prog_7_method_26_code
def yX5_isBetter : MethodName := ⟨RX5, "isBetter", "(II)Z"⟩
abbrev cX5_find : ByteArray := prog_7_method_27_code
def yX5_find : MethodName := ⟨RX5, "find", "(I)V"⟩
abbrev cX5_best : ByteArray := prog_7_method_28_code
def yX5_best : MethodName := ⟨RX5, "best", "(I)I"⟩
abbrev cX5_answer : ByteArray := prog_7_method_29_code
def yX5_answer : MethodName := ⟨RX5, "answer", "(II)I"⟩
abbrev cX5_adopt : ByteArray := prog_7_method_30_code
def yX5_adopt : MethodName := ⟨RX5, "adopt", "(I)V"⟩
abbrev cX5_take : ByteArray := prog_7_method_31_code
def yX5_take : MethodName := ⟨RX5, "take", "(I)I"⟩
abbrev cX5_isAsBehind : ByteArray := prog_7_method_32_code
def yX5_isAsBehind : MethodName := ⟨RX5, "isAsBehind", "(I)Z"⟩
abbrev cX5_keep : ByteArray := prog_7_method_33_code
def yX5_keep : MethodName := ⟨RX5, "keep", "(I)V"⟩
abbrev cX5_play : ByteArray := prog_7_method_34_code
def yX5_play : MethodName := ⟨RX5, "play", "(I)I"⟩
abbrev cX5_ended : ByteArray := prog_7_method_35_code
def yX5_ended : MethodName := ⟨RX5, "ended", "()I"⟩
abbrev cX5_ring : ByteArray := prog_7_method_36_code
def yX5_ring : MethodName := ⟨RX5, "ring", "()I"⟩
abbrev cX5_gift : ByteArray := prog_7_method_37_code
def yX5_gift : MethodName := ⟨RX5, "gift", "(III)I"⟩
abbrev cX5_bond : ByteArray := prog_7_method_38_code
def yX5_bond : MethodName := ⟨RX5, "bond", "(III)I"⟩
abbrev cX5_root : ByteArray := prog_7_method_39_code
def yX5_root : MethodName := ⟨RX5, "root", "(J)J"⟩
abbrev cX5_matchedOf : ByteArray := prog_7_method_40_code
def yX5_matchedOf : MethodName := ⟨RX5, "matchedOf", "(IIZ)J"⟩
abbrev cX5_matched : ByteArray := prog_7_method_41_code
def yX5_matched : MethodName := ⟨RX5, "matched", "(II)J"⟩
abbrev cX5_share : ByteArray := prog_7_method_42_code
def yX5_share : MethodName := ⟨RX5, "share", "(IJ)J"⟩
abbrev cX5_damped : ByteArray := prog_7_method_43_code
def yX5_damped : MethodName := ⟨RX5, "damped", "(I)J"⟩
abbrev cX5_likenessOf : ByteArray := prog_7_method_44_code
def yX5_likenessOf : MethodName := ⟨RX5, "likenessOf", "(II)I"⟩
abbrev cX5_likeness : ByteArray := prog_7_method_45_code
def yX5_likeness : MethodName := ⟨RX5, "likeness", "(II)I"⟩
abbrev cX5_group : ByteArray := prog_7_method_46_code
def yX5_group : MethodName := ⟨RX5, "group", "(II)I"⟩
abbrev cX5_count : ByteArray := prog_7_method_47_code
def yX5_count : MethodName := ⟨RX5, "count", "(I)I"⟩
abbrev cX5_mix : ByteArray := prog_7_method_48_code
def yX5_mix : MethodName := ⟨RX5, "mix", "(J)V"⟩
abbrev cX5_digest : ByteArray := prog_7_method_49_code
def yX5_digest : MethodName := ⟨RX5, "digest", "()J"⟩
def RL : String := "DearVotesLaw"
abbrev cL_law : ByteArray := code
def yL_law : MethodName := ⟨RL, "law", "([I)Z"⟩
abbrev vwCl : List vw_C := [(RX0, TX0, 5), (RX1, TX1, 7), (RX2, TX2, 7), (RX3, TX3, 10), (RX4, TX4, 4), (RX5, TX5, 25)]
end
section
theorem dX0_init_0 : decode cX0_init 0 = .ok (.aload_n 0, 1) := by decide +kernel
theorem dX0_init_1 : decode cX0_init 1 = .ok (.invokespecial 3, 3) := by decide +kernel
theorem dX0_init_4 : decode cX0_init 4 = .ok (.aload_n 0, 1) := by decide +kernel
theorem dX0_init_5 : decode cX0_init 5 = .ok (.bipush 12, 2) := by decide +kernel
theorem dX0_init_7 : decode cX0_init 7 = .ok (.bipush 6, 2) := by decide +kernel
theorem dX0_init_9 : decode cX0_init 9 = .ok (.multianewarray 9 2, 4) := by decide +kernel
theorem dX0_init_13 : decode cX0_init 13 = .ok (.putfield 11, 3) := by decide +kernel
theorem dX0_init_16 : decode cX0_init 16 = .ok (.aload_n 0, 1) := by decide +kernel
theorem dX0_init_17 : decode cX0_init 17 = .ok (.bipush 12, 2) := by decide +kernel
theorem dX0_init_19 : decode cX0_init 19 = .ok (.bipush 12, 2) := by decide +kernel
theorem dX0_init_21 : decode cX0_init 21 = .ok (.multianewarray 9 2, 4) := by decide +kernel
theorem dX0_init_25 : decode cX0_init 25 = .ok (.putfield 16, 3) := by decide +kernel
theorem dX0_init_28 : decode cX0_init 28 = .ok (.aload_n 0, 1) := by decide +kernel
theorem dX0_init_29 : decode cX0_init 29 = .ok (.bipush 6, 2) := by decide +kernel
theorem dX0_init_31 : decode cX0_init 31 = .ok (.newarray .long, 2) := by decide +kernel
theorem dX0_init_33 : decode cX0_init 33 = .ok (.putfield 19, 3) := by decide +kernel
theorem dX0_init_36 : decode cX0_init 36 = .ok (.aload_n 0, 1) := by decide +kernel
theorem dX0_init_37 : decode cX0_init 37 = .ok (.aload_n 1, 1) := by decide +kernel
theorem dX0_init_38 : decode cX0_init 38 = .ok (.putfield 23, 3) := by decide +kernel
theorem dX0_init_41 : decode cX0_init 41 = .ok (.iconst 0, 1) := by decide +kernel
theorem dX0_init_42 : decode cX0_init 42 = .ok (.istore_n 2, 1) := by decide +kernel
theorem dX0_init_43 : decode cX0_init 43 = .ok (.iload_n 2, 1) := by decide +kernel
theorem dX0_init_44 : decode cX0_init 44 = .ok (.bipush 12, 2) := by decide +kernel
theorem dX0_init_46 : decode cX0_init 46 = .ok (.if_icmp .ge 34, 3) := by decide +kernel
theorem dX0_init_49 : decode cX0_init 49 = .ok (.iconst 0, 1) := by decide +kernel
theorem dX0_init_50 : decode cX0_init 50 = .ok (.istore_n 3, 1) := by decide +kernel
theorem dX0_init_51 : decode cX0_init 51 = .ok (.iload_n 3, 1) := by decide +kernel
theorem dX0_init_52 : decode cX0_init 52 = .ok (.bipush 12, 2) := by decide +kernel
theorem dX0_init_54 : decode cX0_init 54 = .ok (.if_icmp .ge 20, 3) := by decide +kernel
theorem dX0_init_57 : decode cX0_init 57 = .ok (.aload_n 0, 1) := by decide +kernel
theorem dX0_init_58 : decode cX0_init 58 = .ok (.getfield 16, 3) := by decide +kernel
theorem dX0_init_61 : decode cX0_init 61 = .ok (.iload_n 2, 1) := by decide +kernel
theorem dX0_init_62 : decode cX0_init 62 = .ok (.aaload, 1) := by decide +kernel
theorem dX0_init_63 : decode cX0_init 63 = .ok (.iload_n 3, 1) := by decide +kernel
theorem dX0_init_64 : decode cX0_init 64 = .ok (.sipush 1000, 3) := by decide +kernel
theorem dX0_init_67 : decode cX0_init 67 = .ok (.iastore, 1) := by decide +kernel
theorem dX0_init_68 : decode cX0_init 68 = .ok (.iinc 3 1, 3) := by decide +kernel
theorem dX0_init_71 : decode cX0_init 71 = .ok (.goto (-20), 3) := by decide +kernel
theorem dX0_init_74 : decode cX0_init 74 = .ok (.iinc 2 1, 3) := by decide +kernel
theorem dX0_init_77 : decode cX0_init 77 = .ok (.goto (-34), 3) := by decide +kernel
theorem dX0_init_80 : decode cX0_init 80 = .ok (.return_, 1) := by decide +kernel
theorem dX0_hasProject_0 : decode cX0_hasProject 0 = .ok (.iload_n 1, 1) := by decide +kernel
theorem dX0_hasProject_1 : decode cX0_hasProject 1 = .ok (.ifCond .lt 15, 3) := by decide +kernel
theorem dX0_hasProject_4 : decode cX0_hasProject 4 = .ok (.iload_n 1, 1) := by decide +kernel
theorem dX0_hasProject_5 : decode cX0_hasProject 5 = .ok (.aload_n 0, 1) := by decide +kernel
theorem dX0_hasProject_6 : decode cX0_hasProject 6 = .ok (.getfield 27, 3) := by decide +kernel
theorem dX0_hasProject_9 : decode cX0_hasProject 9 = .ok (.if_icmp .ge 7, 3) := by decide +kernel
theorem dX0_hasProject_12 : decode cX0_hasProject 12 = .ok (.iconst 1, 1) := by decide +kernel
theorem dX0_hasProject_13 : decode cX0_hasProject 13 = .ok (.goto 4, 3) := by decide +kernel
theorem dX0_hasProject_16 : decode cX0_hasProject 16 = .ok (.iconst 0, 1) := by decide +kernel
theorem dX0_hasProject_17 : decode cX0_hasProject 17 = .ok (.ireturn, 1) := by decide +kernel
theorem dX0_matchedLow_0 : decode cX0_matchedLow 0 = .ok (.lconst 0, 1) := by decide +kernel
theorem dX0_matchedLow_1 : decode cX0_matchedLow 1 = .ok (.lstore_n 2, 1) := by decide +kernel
theorem dX0_matchedLow_2 : decode cX0_matchedLow 2 = .ok (.iconst 0, 1) := by decide +kernel
theorem dX0_matchedLow_3 : decode cX0_matchedLow 3 = .ok (.istore 4, 2) := by decide +kernel
theorem dX0_matchedLow_5 : decode cX0_matchedLow 5 = .ok (.iload 4, 2) := by decide +kernel
theorem dX0_matchedLow_7 : decode cX0_matchedLow 7 = .ok (.aload_n 0, 1) := by decide +kernel
theorem dX0_matchedLow_8 : decode cX0_matchedLow 8 = .ok (.getfield 23, 3) := by decide +kernel
theorem dX0_matchedLow_11 : decode cX0_matchedLow 11 = .ok (.getfield 31, 3) := by decide +kernel
theorem dX0_matchedLow_14 : decode cX0_matchedLow 14 = .ok (.if_icmp .ge 52, 3) := by decide +kernel
theorem dX0_matchedLow_17 : decode cX0_matchedLow 17 = .ok (.iconst 0, 1) := by decide +kernel
theorem dX0_matchedLow_18 : decode cX0_matchedLow 18 = .ok (.istore 5, 2) := by decide +kernel
theorem dX0_matchedLow_20 : decode cX0_matchedLow 20 = .ok (.iload 5, 2) := by decide +kernel
theorem dX0_matchedLow_22 : decode cX0_matchedLow 22 = .ok (.iload 4, 2) := by decide +kernel
theorem dX0_matchedLow_24 : decode cX0_matchedLow 24 = .ok (.if_icmp .ge 36, 3) := by decide +kernel
theorem dX0_matchedLow_27 : decode cX0_matchedLow 27 = .ok (.lload_n 2, 1) := by decide +kernel
theorem dX0_matchedLow_28 : decode cX0_matchedLow 28 = .ok (.aload_n 0, 1) := by decide +kernel
theorem dX0_matchedLow_29 : decode cX0_matchedLow 29 = .ok (.getfield 16, 3) := by decide +kernel
theorem dX0_matchedLow_32 : decode cX0_matchedLow 32 = .ok (.iload 4, 2) := by decide +kernel
theorem dX0_matchedLow_34 : decode cX0_matchedLow 34 = .ok (.aaload, 1) := by decide +kernel
theorem dX0_matchedLow_35 : decode cX0_matchedLow 35 = .ok (.iload 5, 2) := by decide +kernel
theorem dX0_matchedLow_37 : decode cX0_matchedLow 37 = .ok (.iaload, 1) := by decide +kernel
theorem dX0_matchedLow_38 : decode cX0_matchedLow 38 = .ok (.i2l, 1) := by decide +kernel
theorem dX0_matchedLow_39 : decode cX0_matchedLow 39 = .ok (.aload_n 0, 1) := by decide +kernel
theorem dX0_matchedLow_40 : decode cX0_matchedLow 40 = .ok (.iload 4, 2) := by decide +kernel
theorem dX0_matchedLow_42 : decode cX0_matchedLow 42 = .ok (.iload 5, 2) := by decide +kernel
theorem dX0_matchedLow_44 : decode cX0_matchedLow 44 = .ok (.iload_n 1, 1) := by decide +kernel
theorem dX0_matchedLow_45 : decode cX0_matchedLow 45 = .ok (.invokevirtual 36, 3) := by decide +kernel
theorem dX0_matchedLow_48 : decode cX0_matchedLow 48 = .ok (.invokestatic 40, 3) := by decide +kernel
theorem dX0_matchedLow_51 : decode cX0_matchedLow 51 = .ok (.lmul, 1) := by decide +kernel
theorem dX0_matchedLow_52 : decode cX0_matchedLow 52 = .ok (.ladd, 1) := by decide +kernel
theorem dX0_matchedLow_53 : decode cX0_matchedLow 53 = .ok (.lstore_n 2, 1) := by decide +kernel
theorem dX0_matchedLow_54 : decode cX0_matchedLow 54 = .ok (.iinc 5 1, 3) := by decide +kernel
theorem dX0_matchedLow_57 : decode cX0_matchedLow 57 = .ok (.goto (-37), 3) := by decide +kernel
theorem dX0_matchedLow_60 : decode cX0_matchedLow 60 = .ok (.iinc 4 1, 3) := by decide +kernel
theorem dX0_matchedLow_63 : decode cX0_matchedLow 63 = .ok (.goto (-58), 3) := by decide +kernel
theorem dX0_matchedLow_66 : decode cX0_matchedLow 66 = .ok (.ldc2_w 44, 3) := by decide +kernel
theorem dX0_matchedLow_69 : decode cX0_matchedLow 69 = .ok (.lload_n 2, 1) := by decide +kernel
theorem dX0_matchedLow_70 : decode cX0_matchedLow 70 = .ok (.lmul, 1) := by decide +kernel
theorem dX0_matchedLow_71 : decode cX0_matchedLow 71 = .ok (.ldc2_w 46, 3) := by decide +kernel
theorem dX0_matchedLow_74 : decode cX0_matchedLow 74 = .ok (.ldiv, 1) := by decide +kernel
theorem dX0_matchedLow_75 : decode cX0_matchedLow 75 = .ok (.lreturn, 1) := by decide +kernel
theorem dX0_matchedUndamped_0 : decode cX0_matchedUndamped 0 = .ok (.lconst 0, 1) := by decide +kernel
theorem dX0_matchedUndamped_1 : decode cX0_matchedUndamped 1 = .ok (.lstore_n 2, 1) := by decide +kernel
theorem dX0_matchedUndamped_2 : decode cX0_matchedUndamped 2 = .ok (.iconst 0, 1) := by decide +kernel
theorem dX0_matchedUndamped_3 : decode cX0_matchedUndamped 3 = .ok (.istore 4, 2) := by decide +kernel
theorem dX0_matchedUndamped_5 : decode cX0_matchedUndamped 5 = .ok (.iload 4, 2) := by decide +kernel
theorem dX0_matchedUndamped_7 : decode cX0_matchedUndamped 7 = .ok (.aload_n 0, 1) := by decide +kernel
theorem dX0_matchedUndamped_8 : decode cX0_matchedUndamped 8 = .ok (.getfield 23, 3) := by decide +kernel
theorem dX0_matchedUndamped_11 : decode cX0_matchedUndamped 11 = .ok (.getfield 31, 3) := by decide +kernel
theorem dX0_matchedUndamped_14 : decode cX0_matchedUndamped 14 = .ok (.if_icmp .ge 44, 3) := by decide +kernel
theorem dX0_matchedUndamped_17 : decode cX0_matchedUndamped 17 = .ok (.iconst 0, 1) := by decide +kernel
theorem dX0_matchedUndamped_18 : decode cX0_matchedUndamped 18 = .ok (.istore 5, 2) := by decide +kernel
theorem dX0_matchedUndamped_20 : decode cX0_matchedUndamped 20 = .ok (.iload 5, 2) := by decide +kernel
theorem dX0_matchedUndamped_22 : decode cX0_matchedUndamped 22 = .ok (.iload 4, 2) := by decide +kernel
theorem dX0_matchedUndamped_24 : decode cX0_matchedUndamped 24 = .ok (.if_icmp .ge 28, 3) := by decide +kernel
theorem dX0_matchedUndamped_27 : decode cX0_matchedUndamped 27 = .ok (.lload_n 2, 1) := by decide +kernel
theorem dX0_matchedUndamped_28 : decode cX0_matchedUndamped 28 = .ok (.ldc2_w 48, 3) := by decide +kernel
theorem dX0_matchedUndamped_31 : decode cX0_matchedUndamped 31 = .ok (.aload_n 0, 1) := by decide +kernel
theorem dX0_matchedUndamped_32 : decode cX0_matchedUndamped 32 = .ok (.iload 4, 2) := by decide +kernel
theorem dX0_matchedUndamped_34 : decode cX0_matchedUndamped 34 = .ok (.iload 5, 2) := by decide +kernel
theorem dX0_matchedUndamped_36 : decode cX0_matchedUndamped 36 = .ok (.iload_n 1, 1) := by decide +kernel
theorem dX0_matchedUndamped_37 : decode cX0_matchedUndamped 37 = .ok (.invokevirtual 36, 3) := by decide +kernel
theorem dX0_matchedUndamped_40 : decode cX0_matchedUndamped 40 = .ok (.invokestatic 40, 3) := by decide +kernel
theorem dX0_matchedUndamped_43 : decode cX0_matchedUndamped 43 = .ok (.lmul, 1) := by decide +kernel
theorem dX0_matchedUndamped_44 : decode cX0_matchedUndamped 44 = .ok (.ladd, 1) := by decide +kernel
theorem dX0_matchedUndamped_45 : decode cX0_matchedUndamped 45 = .ok (.lstore_n 2, 1) := by decide +kernel
theorem dX0_matchedUndamped_46 : decode cX0_matchedUndamped 46 = .ok (.iinc 5 1, 3) := by decide +kernel
theorem dX0_matchedUndamped_49 : decode cX0_matchedUndamped 49 = .ok (.goto (-29), 3) := by decide +kernel
theorem dX0_matchedUndamped_52 : decode cX0_matchedUndamped 52 = .ok (.iinc 4 1, 3) := by decide +kernel
theorem dX0_matchedUndamped_55 : decode cX0_matchedUndamped 55 = .ok (.goto (-50), 3) := by decide +kernel
theorem dX0_matchedUndamped_58 : decode cX0_matchedUndamped 58 = .ok (.ldc2_w 44, 3) := by decide +kernel
theorem dX0_matchedUndamped_61 : decode cX0_matchedUndamped 61 = .ok (.lload_n 2, 1) := by decide +kernel
theorem dX0_matchedUndamped_62 : decode cX0_matchedUndamped 62 = .ok (.lmul, 1) := by decide +kernel
theorem dX0_matchedUndamped_63 : decode cX0_matchedUndamped 63 = .ok (.ldc2_w 46, 3) := by decide +kernel
theorem dX0_matchedUndamped_66 : decode cX0_matchedUndamped 66 = .ok (.ldiv, 1) := by decide +kernel
theorem dX0_matchedUndamped_67 : decode cX0_matchedUndamped 67 = .ok (.lreturn, 1) := by decide +kernel
theorem dX0_matchedHigh_0 : decode cX0_matchedHigh 0 = .ok (.lconst 0, 1) := by decide +kernel
theorem dX0_matchedHigh_1 : decode cX0_matchedHigh 1 = .ok (.lstore_n 2, 1) := by decide +kernel
theorem dX0_matchedHigh_2 : decode cX0_matchedHigh 2 = .ok (.iconst 0, 1) := by decide +kernel
theorem dX0_matchedHigh_3 : decode cX0_matchedHigh 3 = .ok (.istore 4, 2) := by decide +kernel
theorem dX0_matchedHigh_5 : decode cX0_matchedHigh 5 = .ok (.iload 4, 2) := by decide +kernel
theorem dX0_matchedHigh_7 : decode cX0_matchedHigh 7 = .ok (.aload_n 0, 1) := by decide +kernel
theorem dX0_matchedHigh_8 : decode cX0_matchedHigh 8 = .ok (.getfield 23, 3) := by decide +kernel
theorem dX0_matchedHigh_11 : decode cX0_matchedHigh 11 = .ok (.getfield 31, 3) := by decide +kernel
theorem dX0_matchedHigh_14 : decode cX0_matchedHigh 14 = .ok (.if_icmp .ge 52, 3) := by decide +kernel
theorem dX0_matchedHigh_17 : decode cX0_matchedHigh 17 = .ok (.iconst 0, 1) := by decide +kernel
theorem dX0_matchedHigh_18 : decode cX0_matchedHigh 18 = .ok (.istore 5, 2) := by decide +kernel
theorem dX0_matchedHigh_20 : decode cX0_matchedHigh 20 = .ok (.iload 5, 2) := by decide +kernel
theorem dX0_matchedHigh_22 : decode cX0_matchedHigh 22 = .ok (.iload 4, 2) := by decide +kernel
theorem dX0_matchedHigh_24 : decode cX0_matchedHigh 24 = .ok (.if_icmp .ge 36, 3) := by decide +kernel
theorem dX0_matchedHigh_27 : decode cX0_matchedHigh 27 = .ok (.lload_n 2, 1) := by decide +kernel
theorem dX0_matchedHigh_28 : decode cX0_matchedHigh 28 = .ok (.aload_n 0, 1) := by decide +kernel
theorem dX0_matchedHigh_29 : decode cX0_matchedHigh 29 = .ok (.getfield 16, 3) := by decide +kernel
theorem dX0_matchedHigh_32 : decode cX0_matchedHigh 32 = .ok (.iload 4, 2) := by decide +kernel
theorem dX0_matchedHigh_34 : decode cX0_matchedHigh 34 = .ok (.aaload, 1) := by decide +kernel
theorem dX0_matchedHigh_35 : decode cX0_matchedHigh 35 = .ok (.iload 5, 2) := by decide +kernel
theorem dX0_matchedHigh_37 : decode cX0_matchedHigh 37 = .ok (.iaload, 1) := by decide +kernel
theorem dX0_matchedHigh_38 : decode cX0_matchedHigh 38 = .ok (.i2l, 1) := by decide +kernel
theorem dX0_matchedHigh_39 : decode cX0_matchedHigh 39 = .ok (.aload_n 0, 1) := by decide +kernel
theorem dX0_matchedHigh_40 : decode cX0_matchedHigh 40 = .ok (.iload 4, 2) := by decide +kernel
theorem dX0_matchedHigh_42 : decode cX0_matchedHigh 42 = .ok (.iload 5, 2) := by decide +kernel
theorem dX0_matchedHigh_44 : decode cX0_matchedHigh 44 = .ok (.iload_n 1, 1) := by decide +kernel
theorem dX0_matchedHigh_45 : decode cX0_matchedHigh 45 = .ok (.invokevirtual 36, 3) := by decide +kernel
theorem dX0_matchedHigh_48 : decode cX0_matchedHigh 48 = .ok (.invokestatic 50, 3) := by decide +kernel
theorem dX0_matchedHigh_51 : decode cX0_matchedHigh 51 = .ok (.lmul, 1) := by decide +kernel
theorem dX0_matchedHigh_52 : decode cX0_matchedHigh 52 = .ok (.ladd, 1) := by decide +kernel
theorem dX0_matchedHigh_53 : decode cX0_matchedHigh 53 = .ok (.lstore_n 2, 1) := by decide +kernel
theorem dX0_matchedHigh_54 : decode cX0_matchedHigh 54 = .ok (.iinc 5 1, 3) := by decide +kernel
theorem dX0_matchedHigh_57 : decode cX0_matchedHigh 57 = .ok (.goto (-37), 3) := by decide +kernel
theorem dX0_matchedHigh_60 : decode cX0_matchedHigh 60 = .ok (.iinc 4 1, 3) := by decide +kernel
theorem dX0_matchedHigh_63 : decode cX0_matchedHigh 63 = .ok (.goto (-58), 3) := by decide +kernel
theorem dX0_matchedHigh_66 : decode cX0_matchedHigh 66 = .ok (.ldc2_w 44, 3) := by decide +kernel
theorem dX0_matchedHigh_69 : decode cX0_matchedHigh 69 = .ok (.lload_n 2, 1) := by decide +kernel
theorem dX0_matchedHigh_70 : decode cX0_matchedHigh 70 = .ok (.lmul, 1) := by decide +kernel
theorem dX0_matchedHigh_71 : decode cX0_matchedHigh 71 = .ok (.ldc2_w 46, 3) := by decide +kernel
theorem dX0_matchedHigh_74 : decode cX0_matchedHigh 74 = .ok (.ladd, 1) := by decide +kernel
theorem dX0_matchedHigh_75 : decode cX0_matchedHigh 75 = .ok (.lconst 1, 1) := by decide +kernel
theorem dX0_matchedHigh_76 : decode cX0_matchedHigh 76 = .ok (.lsub, 1) := by decide +kernel
theorem dX0_matchedHigh_77 : decode cX0_matchedHigh 77 = .ok (.ldc2_w 46, 3) := by decide +kernel
theorem dX0_matchedHigh_80 : decode cX0_matchedHigh 80 = .ok (.ldiv, 1) := by decide +kernel
theorem dX0_matchedHigh_81 : decode cX0_matchedHigh 81 = .ok (.lreturn, 1) := by decide +kernel
theorem dX0_fineProduct_0 : decode cX0_fineProduct 0 = .ok (.ldc2_w 53, 3) := by decide +kernel
theorem dX0_fineProduct_3 : decode cX0_fineProduct 3 = .ok (.aload_n 0, 1) := by decide +kernel
theorem dX0_fineProduct_4 : decode cX0_fineProduct 4 = .ok (.getfield 11, 3) := by decide +kernel
theorem dX0_fineProduct_7 : decode cX0_fineProduct 7 = .ok (.iload_n 1, 1) := by decide +kernel
theorem dX0_fineProduct_8 : decode cX0_fineProduct 8 = .ok (.aaload, 1) := by decide +kernel
theorem dX0_fineProduct_9 : decode cX0_fineProduct 9 = .ok (.iload_n 3, 1) := by decide +kernel
theorem dX0_fineProduct_10 : decode cX0_fineProduct 10 = .ok (.iaload, 1) := by decide +kernel
theorem dX0_fineProduct_11 : decode cX0_fineProduct 11 = .ok (.i2l, 1) := by decide +kernel
theorem dX0_fineProduct_12 : decode cX0_fineProduct 12 = .ok (.lmul, 1) := by decide +kernel
theorem dX0_fineProduct_13 : decode cX0_fineProduct 13 = .ok (.aload_n 0, 1) := by decide +kernel
theorem dX0_fineProduct_14 : decode cX0_fineProduct 14 = .ok (.getfield 11, 3) := by decide +kernel
theorem dX0_fineProduct_17 : decode cX0_fineProduct 17 = .ok (.iload_n 2, 1) := by decide +kernel
theorem dX0_fineProduct_18 : decode cX0_fineProduct 18 = .ok (.aaload, 1) := by decide +kernel
theorem dX0_fineProduct_19 : decode cX0_fineProduct 19 = .ok (.iload_n 3, 1) := by decide +kernel
theorem dX0_fineProduct_20 : decode cX0_fineProduct 20 = .ok (.iaload, 1) := by decide +kernel
theorem dX0_fineProduct_21 : decode cX0_fineProduct 21 = .ok (.i2l, 1) := by decide +kernel
theorem dX0_fineProduct_22 : decode cX0_fineProduct 22 = .ok (.lmul, 1) := by decide +kernel
theorem dX0_fineProduct_23 : decode cX0_fineProduct 23 = .ok (.lreturn, 1) := by decide +kernel
theorem dX0_root_0 : decode cX0_root 0 = .ok (.lconst 0, 1) := by decide +kernel
theorem dX0_root_1 : decode cX0_root 1 = .ok (.lstore_n 2, 1) := by decide +kernel
theorem dX0_root_2 : decode cX0_root 2 = .ok (.ldc2_w 55, 3) := by decide +kernel
theorem dX0_root_5 : decode cX0_root 5 = .ok (.lstore 4, 2) := by decide +kernel
theorem dX0_root_7 : decode cX0_root 7 = .ok (.lload 4, 2) := by decide +kernel
theorem dX0_root_9 : decode cX0_root 9 = .ok (.lconst 0, 1) := by decide +kernel
theorem dX0_root_10 : decode cX0_root 10 = .ok (.lcmp, 1) := by decide +kernel
theorem dX0_root_11 : decode cX0_root 11 = .ok (.ifCond .le 31, 3) := by decide +kernel
theorem dX0_root_14 : decode cX0_root 14 = .ok (.lload_n 2, 1) := by decide +kernel
theorem dX0_root_15 : decode cX0_root 15 = .ok (.lload 4, 2) := by decide +kernel
theorem dX0_root_17 : decode cX0_root 17 = .ok (.ladd, 1) := by decide +kernel
theorem dX0_root_18 : decode cX0_root 18 = .ok (.lload_n 2, 1) := by decide +kernel
theorem dX0_root_19 : decode cX0_root 19 = .ok (.lload 4, 2) := by decide +kernel
theorem dX0_root_21 : decode cX0_root 21 = .ok (.ladd, 1) := by decide +kernel
theorem dX0_root_22 : decode cX0_root 22 = .ok (.lmul, 1) := by decide +kernel
theorem dX0_root_23 : decode cX0_root 23 = .ok (.lload_n 0, 1) := by decide +kernel
theorem dX0_root_24 : decode cX0_root 24 = .ok (.lcmp, 1) := by decide +kernel
theorem dX0_root_25 : decode cX0_root 25 = .ok (.ifCond .gt 8, 3) := by decide +kernel
theorem dX0_root_28 : decode cX0_root 28 = .ok (.lload_n 2, 1) := by decide +kernel
theorem dX0_root_29 : decode cX0_root 29 = .ok (.lload 4, 2) := by decide +kernel
theorem dX0_root_31 : decode cX0_root 31 = .ok (.ladd, 1) := by decide +kernel
theorem dX0_root_32 : decode cX0_root 32 = .ok (.lstore_n 2, 1) := by decide +kernel
theorem dX0_root_33 : decode cX0_root 33 = .ok (.lload 4, 2) := by decide +kernel
theorem dX0_root_35 : decode cX0_root 35 = .ok (.iconst 1, 1) := by decide +kernel
theorem dX0_root_36 : decode cX0_root 36 = .ok (.lshr, 1) := by decide +kernel
theorem dX0_root_37 : decode cX0_root 37 = .ok (.lstore 4, 2) := by decide +kernel
theorem dX0_root_39 : decode cX0_root 39 = .ok (.goto (-32), 3) := by decide +kernel
theorem dX0_root_42 : decode cX0_root 42 = .ok (.lload_n 2, 1) := by decide +kernel
theorem dX0_root_43 : decode cX0_root 43 = .ok (.lreturn, 1) := by decide +kernel
theorem dX0_rootAbove_0 : decode cX0_rootAbove 0 = .ok (.lload_n 0, 1) := by decide +kernel
theorem dX0_rootAbove_1 : decode cX0_rootAbove 1 = .ok (.invokestatic 40, 3) := by decide +kernel
theorem dX0_rootAbove_4 : decode cX0_rootAbove 4 = .ok (.lstore_n 2, 1) := by decide +kernel
theorem dX0_rootAbove_5 : decode cX0_rootAbove 5 = .ok (.lload_n 2, 1) := by decide +kernel
theorem dX0_rootAbove_6 : decode cX0_rootAbove 6 = .ok (.lload_n 2, 1) := by decide +kernel
theorem dX0_rootAbove_7 : decode cX0_rootAbove 7 = .ok (.lmul, 1) := by decide +kernel
theorem dX0_rootAbove_8 : decode cX0_rootAbove 8 = .ok (.lload_n 0, 1) := by decide +kernel
theorem dX0_rootAbove_9 : decode cX0_rootAbove 9 = .ok (.lcmp, 1) := by decide +kernel
theorem dX0_rootAbove_10 : decode cX0_rootAbove 10 = .ok (.ifCond .ne 7, 3) := by decide +kernel
theorem dX0_rootAbove_13 : decode cX0_rootAbove 13 = .ok (.lload_n 2, 1) := by decide +kernel
theorem dX0_rootAbove_14 : decode cX0_rootAbove 14 = .ok (.goto 6, 3) := by decide +kernel
theorem dX0_rootAbove_17 : decode cX0_rootAbove 17 = .ok (.lload_n 2, 1) := by decide +kernel
theorem dX0_rootAbove_18 : decode cX0_rootAbove 18 = .ok (.lconst 1, 1) := by decide +kernel
theorem dX0_rootAbove_19 : decode cX0_rootAbove 19 = .ok (.ladd, 1) := by decide +kernel
theorem dX0_rootAbove_20 : decode cX0_rootAbove 20 = .ok (.lreturn, 1) := by decide +kernel
theorem dX0_shareOf_0 : decode cX0_shareOf 0 = .ok (.lconst 0, 1) := by decide +kernel
theorem dX0_shareOf_1 : decode cX0_shareOf 1 = .ok (.lstore 4, 2) := by decide +kernel
theorem dX0_shareOf_3 : decode cX0_shareOf 3 = .ok (.iconst 0, 1) := by decide +kernel
theorem dX0_shareOf_4 : decode cX0_shareOf 4 = .ok (.istore 6, 2) := by decide +kernel
theorem dX0_shareOf_6 : decode cX0_shareOf 6 = .ok (.iload 6, 2) := by decide +kernel
theorem dX0_shareOf_8 : decode cX0_shareOf 8 = .ok (.aload_n 0, 1) := by decide +kernel
theorem dX0_shareOf_9 : decode cX0_shareOf 9 = .ok (.getfield 27, 3) := by decide +kernel
theorem dX0_shareOf_12 : decode cX0_shareOf 12 = .ok (.if_icmp .ge 34, 3) := by decide +kernel
theorem dX0_shareOf_15 : decode cX0_shareOf 15 = .ok (.aload_n 0, 1) := by decide +kernel
theorem dX0_shareOf_16 : decode cX0_shareOf 16 = .ok (.getfield 19, 3) := by decide +kernel
theorem dX0_shareOf_19 : decode cX0_shareOf 19 = .ok (.iload 6, 2) := by decide +kernel
theorem dX0_shareOf_21 : decode cX0_shareOf 21 = .ok (.aload_n 0, 1) := by decide +kernel
theorem dX0_shareOf_22 : decode cX0_shareOf 22 = .ok (.iload 6, 2) := by decide +kernel
theorem dX0_shareOf_24 : decode cX0_shareOf 24 = .ok (.invokevirtual 57, 3) := by decide +kernel
theorem dX0_shareOf_27 : decode cX0_shareOf 27 = .ok (.lastore, 1) := by decide +kernel
theorem dX0_shareOf_28 : decode cX0_shareOf 28 = .ok (.lload 4, 2) := by decide +kernel
theorem dX0_shareOf_30 : decode cX0_shareOf 30 = .ok (.aload_n 0, 1) := by decide +kernel
theorem dX0_shareOf_31 : decode cX0_shareOf 31 = .ok (.getfield 19, 3) := by decide +kernel
theorem dX0_shareOf_34 : decode cX0_shareOf 34 = .ok (.iload 6, 2) := by decide +kernel
theorem dX0_shareOf_36 : decode cX0_shareOf 36 = .ok (.laload, 1) := by decide +kernel
theorem dX0_shareOf_37 : decode cX0_shareOf 37 = .ok (.ladd, 1) := by decide +kernel
theorem dX0_shareOf_38 : decode cX0_shareOf 38 = .ok (.lstore 4, 2) := by decide +kernel
theorem dX0_shareOf_40 : decode cX0_shareOf 40 = .ok (.iinc 6 1, 3) := by decide +kernel
theorem dX0_shareOf_43 : decode cX0_shareOf 43 = .ok (.goto (-37), 3) := by decide +kernel
theorem dX0_shareOf_46 : decode cX0_shareOf 46 = .ok (.lload 4, 2) := by decide +kernel
theorem dX0_shareOf_48 : decode cX0_shareOf 48 = .ok (.lconst 0, 1) := by decide +kernel
theorem dX0_shareOf_49 : decode cX0_shareOf 49 = .ok (.lcmp, 1) := by decide +kernel
theorem dX0_shareOf_50 : decode cX0_shareOf 50 = .ok (.ifCond .gt 5, 3) := by decide +kernel
theorem dX0_shareOf_53 : decode cX0_shareOf 53 = .ok (.lconst 0, 1) := by decide +kernel
theorem dX0_shareOf_54 : decode cX0_shareOf 54 = .ok (.lreturn, 1) := by decide +kernel
theorem dX0_shareOf_55 : decode cX0_shareOf 55 = .ok (.lload_n 2, 1) := by decide +kernel
theorem dX0_shareOf_56 : decode cX0_shareOf 56 = .ok (.aload_n 0, 1) := by decide +kernel
theorem dX0_shareOf_57 : decode cX0_shareOf 57 = .ok (.getfield 19, 3) := by decide +kernel
theorem dX0_shareOf_60 : decode cX0_shareOf 60 = .ok (.iload_n 1, 1) := by decide +kernel
theorem dX0_shareOf_61 : decode cX0_shareOf 61 = .ok (.laload, 1) := by decide +kernel
theorem dX0_shareOf_62 : decode cX0_shareOf 62 = .ok (.lmul, 1) := by decide +kernel
theorem dX0_shareOf_63 : decode cX0_shareOf 63 = .ok (.lload 4, 2) := by decide +kernel
theorem dX0_shareOf_65 : decode cX0_shareOf 65 = .ok (.lrem, 1) := by decide +kernel
theorem dX0_shareOf_66 : decode cX0_shareOf 66 = .ok (.lstore 6, 2) := by decide +kernel
theorem dX0_shareOf_68 : decode cX0_shareOf 68 = .ok (.lload_n 2, 1) := by decide +kernel
theorem dX0_shareOf_69 : decode cX0_shareOf 69 = .ok (.lstore 8, 2) := by decide +kernel
theorem dX0_shareOf_71 : decode cX0_shareOf 71 = .ok (.iconst 0, 1) := by decide +kernel
theorem dX0_shareOf_72 : decode cX0_shareOf 72 = .ok (.istore 10, 2) := by decide +kernel
theorem dX0_shareOf_74 : decode cX0_shareOf 74 = .ok (.iconst 0, 1) := by decide +kernel
theorem dX0_shareOf_75 : decode cX0_shareOf 75 = .ok (.istore 11, 2) := by decide +kernel
theorem dX0_shareOf_77 : decode cX0_shareOf 77 = .ok (.iload 11, 2) := by decide +kernel
theorem dX0_shareOf_79 : decode cX0_shareOf 79 = .ok (.aload_n 0, 1) := by decide +kernel
theorem dX0_shareOf_80 : decode cX0_shareOf 80 = .ok (.getfield 27, 3) := by decide +kernel
theorem dX0_shareOf_83 : decode cX0_shareOf 83 = .ok (.if_icmp .ge 65, 3) := by decide +kernel
theorem dX0_shareOf_86 : decode cX0_shareOf 86 = .ok (.lload 8, 2) := by decide +kernel
theorem dX0_shareOf_88 : decode cX0_shareOf 88 = .ok (.lload_n 2, 1) := by decide +kernel
theorem dX0_shareOf_89 : decode cX0_shareOf 89 = .ok (.aload_n 0, 1) := by decide +kernel
theorem dX0_shareOf_90 : decode cX0_shareOf 90 = .ok (.getfield 19, 3) := by decide +kernel
theorem dX0_shareOf_93 : decode cX0_shareOf 93 = .ok (.iload 11, 2) := by decide +kernel
theorem dX0_shareOf_95 : decode cX0_shareOf 95 = .ok (.laload, 1) := by decide +kernel
theorem dX0_shareOf_96 : decode cX0_shareOf 96 = .ok (.lmul, 1) := by decide +kernel
theorem dX0_shareOf_97 : decode cX0_shareOf 97 = .ok (.lload 4, 2) := by decide +kernel
theorem dX0_shareOf_99 : decode cX0_shareOf 99 = .ok (.ldiv, 1) := by decide +kernel
theorem dX0_shareOf_100 : decode cX0_shareOf 100 = .ok (.lsub, 1) := by decide +kernel
theorem dX0_shareOf_101 : decode cX0_shareOf 101 = .ok (.lstore 8, 2) := by decide +kernel
theorem dX0_shareOf_103 : decode cX0_shareOf 103 = .ok (.lload_n 2, 1) := by decide +kernel
theorem dX0_shareOf_104 : decode cX0_shareOf 104 = .ok (.aload_n 0, 1) := by decide +kernel
theorem dX0_shareOf_105 : decode cX0_shareOf 105 = .ok (.getfield 19, 3) := by decide +kernel
theorem dX0_shareOf_108 : decode cX0_shareOf 108 = .ok (.iload 11, 2) := by decide +kernel
theorem dX0_shareOf_110 : decode cX0_shareOf 110 = .ok (.laload, 1) := by decide +kernel
theorem dX0_shareOf_111 : decode cX0_shareOf 111 = .ok (.lmul, 1) := by decide +kernel
theorem dX0_shareOf_112 : decode cX0_shareOf 112 = .ok (.lload 4, 2) := by decide +kernel
theorem dX0_shareOf_114 : decode cX0_shareOf 114 = .ok (.lrem, 1) := by decide +kernel
theorem dX0_shareOf_115 : decode cX0_shareOf 115 = .ok (.lstore 12, 2) := by decide +kernel
theorem dX0_shareOf_117 : decode cX0_shareOf 117 = .ok (.lload 12, 2) := by decide +kernel
theorem dX0_shareOf_119 : decode cX0_shareOf 119 = .ok (.lload 6, 2) := by decide +kernel
theorem dX0_shareOf_121 : decode cX0_shareOf 121 = .ok (.lcmp, 1) := by decide +kernel
theorem dX0_shareOf_122 : decode cX0_shareOf 122 = .ok (.ifCond .gt 17, 3) := by decide +kernel
theorem dX0_shareOf_125 : decode cX0_shareOf 125 = .ok (.lload 12, 2) := by decide +kernel
theorem dX0_shareOf_127 : decode cX0_shareOf 127 = .ok (.lload 6, 2) := by decide +kernel
theorem dX0_shareOf_129 : decode cX0_shareOf 129 = .ok (.lcmp, 1) := by decide +kernel
theorem dX0_shareOf_130 : decode cX0_shareOf 130 = .ok (.ifCond .ne 12, 3) := by decide +kernel
theorem dX0_shareOf_133 : decode cX0_shareOf 133 = .ok (.iload 11, 2) := by decide +kernel
theorem dX0_shareOf_135 : decode cX0_shareOf 135 = .ok (.iload_n 1, 1) := by decide +kernel
theorem dX0_shareOf_136 : decode cX0_shareOf 136 = .ok (.if_icmp .ge 6, 3) := by decide +kernel
theorem dX0_shareOf_139 : decode cX0_shareOf 139 = .ok (.iinc 10 1, 3) := by decide +kernel
theorem dX0_shareOf_142 : decode cX0_shareOf 142 = .ok (.iinc 11 1, 3) := by decide +kernel
theorem dX0_shareOf_145 : decode cX0_shareOf 145 = .ok (.goto (-68), 3) := by decide +kernel
theorem dX0_shareOf_148 : decode cX0_shareOf 148 = .ok (.lload_n 2, 1) := by decide +kernel
theorem dX0_shareOf_149 : decode cX0_shareOf 149 = .ok (.aload_n 0, 1) := by decide +kernel
theorem dX0_shareOf_150 : decode cX0_shareOf 150 = .ok (.getfield 19, 3) := by decide +kernel
theorem dX0_shareOf_153 : decode cX0_shareOf 153 = .ok (.iload_n 1, 1) := by decide +kernel
theorem dX0_shareOf_154 : decode cX0_shareOf 154 = .ok (.laload, 1) := by decide +kernel
theorem dX0_shareOf_155 : decode cX0_shareOf 155 = .ok (.lmul, 1) := by decide +kernel
theorem dX0_shareOf_156 : decode cX0_shareOf 156 = .ok (.lload 4, 2) := by decide +kernel
theorem dX0_shareOf_158 : decode cX0_shareOf 158 = .ok (.ldiv, 1) := by decide +kernel
theorem dX0_shareOf_159 : decode cX0_shareOf 159 = .ok (.lstore 11, 2) := by decide +kernel
theorem dX0_shareOf_161 : decode cX0_shareOf 161 = .ok (.iload 10, 2) := by decide +kernel
theorem dX0_shareOf_163 : decode cX0_shareOf 163 = .ok (.i2l, 1) := by decide +kernel
theorem dX0_shareOf_164 : decode cX0_shareOf 164 = .ok (.lload 8, 2) := by decide +kernel
theorem dX0_shareOf_166 : decode cX0_shareOf 166 = .ok (.lcmp, 1) := by decide +kernel
theorem dX0_shareOf_167 : decode cX0_shareOf 167 = .ok (.ifCond .ge 10, 3) := by decide +kernel
theorem dX0_shareOf_170 : decode cX0_shareOf 170 = .ok (.lload 11, 2) := by decide +kernel
theorem dX0_shareOf_172 : decode cX0_shareOf 172 = .ok (.lconst 1, 1) := by decide +kernel
theorem dX0_shareOf_173 : decode cX0_shareOf 173 = .ok (.ladd, 1) := by decide +kernel
theorem dX0_shareOf_174 : decode cX0_shareOf 174 = .ok (.goto 5, 3) := by decide +kernel
theorem dX0_shareOf_177 : decode cX0_shareOf 177 = .ok (.lload 11, 2) := by decide +kernel
theorem dX0_shareOf_179 : decode cX0_shareOf 179 = .ok (.lreturn, 1) := by decide +kernel
theorem dX0_digestPerson_0 : decode cX0_digestPerson 0 = .ok (.lload_n 1, 1) := by decide +kernel
theorem dX0_digestPerson_1 : decode cX0_digestPerson 1 = .ok (.lstore 4, 2) := by decide +kernel
theorem dX0_digestPerson_3 : decode cX0_digestPerson 3 = .ok (.iconst 0, 1) := by decide +kernel
theorem dX0_digestPerson_4 : decode cX0_digestPerson 4 = .ok (.istore 6, 2) := by decide +kernel
theorem dX0_digestPerson_6 : decode cX0_digestPerson 6 = .ok (.iload 6, 2) := by decide +kernel
theorem dX0_digestPerson_8 : decode cX0_digestPerson 8 = .ok (.aload_n 0, 1) := by decide +kernel
theorem dX0_digestPerson_9 : decode cX0_digestPerson 9 = .ok (.getfield 27, 3) := by decide +kernel
theorem dX0_digestPerson_12 : decode cX0_digestPerson 12 = .ok (.if_icmp .ge 28, 3) := by decide +kernel
theorem dX0_digestPerson_15 : decode cX0_digestPerson 15 = .ok (.ldc2_w 61, 3) := by decide +kernel
theorem dX0_digestPerson_18 : decode cX0_digestPerson 18 = .ok (.lload 4, 2) := by decide +kernel
theorem dX0_digestPerson_20 : decode cX0_digestPerson 20 = .ok (.lmul, 1) := by decide +kernel
theorem dX0_digestPerson_21 : decode cX0_digestPerson 21 = .ok (.aload_n 0, 1) := by decide +kernel
theorem dX0_digestPerson_22 : decode cX0_digestPerson 22 = .ok (.getfield 11, 3) := by decide +kernel
theorem dX0_digestPerson_25 : decode cX0_digestPerson 25 = .ok (.iload_n 3, 1) := by decide +kernel
theorem dX0_digestPerson_26 : decode cX0_digestPerson 26 = .ok (.aaload, 1) := by decide +kernel
theorem dX0_digestPerson_27 : decode cX0_digestPerson 27 = .ok (.iload 6, 2) := by decide +kernel
theorem dX0_digestPerson_29 : decode cX0_digestPerson 29 = .ok (.iaload, 1) := by decide +kernel
theorem dX0_digestPerson_30 : decode cX0_digestPerson 30 = .ok (.i2l, 1) := by decide +kernel
theorem dX0_digestPerson_31 : decode cX0_digestPerson 31 = .ok (.ladd, 1) := by decide +kernel
theorem dX0_digestPerson_32 : decode cX0_digestPerson 32 = .ok (.lstore 4, 2) := by decide +kernel
theorem dX0_digestPerson_34 : decode cX0_digestPerson 34 = .ok (.iinc 6 1, 3) := by decide +kernel
theorem dX0_digestPerson_37 : decode cX0_digestPerson 37 = .ok (.goto (-31), 3) := by decide +kernel
theorem dX0_digestPerson_40 : decode cX0_digestPerson 40 = .ok (.iconst 0, 1) := by decide +kernel
theorem dX0_digestPerson_41 : decode cX0_digestPerson 41 = .ok (.istore 6, 2) := by decide +kernel
theorem dX0_digestPerson_43 : decode cX0_digestPerson 43 = .ok (.iload 6, 2) := by decide +kernel
theorem dX0_digestPerson_45 : decode cX0_digestPerson 45 = .ok (.iload_n 3, 1) := by decide +kernel
theorem dX0_digestPerson_46 : decode cX0_digestPerson 46 = .ok (.if_icmp .ge 28, 3) := by decide +kernel
theorem dX0_digestPerson_49 : decode cX0_digestPerson 49 = .ok (.ldc2_w 61, 3) := by decide +kernel
theorem dX0_digestPerson_52 : decode cX0_digestPerson 52 = .ok (.lload 4, 2) := by decide +kernel
theorem dX0_digestPerson_54 : decode cX0_digestPerson 54 = .ok (.lmul, 1) := by decide +kernel
theorem dX0_digestPerson_55 : decode cX0_digestPerson 55 = .ok (.aload_n 0, 1) := by decide +kernel
theorem dX0_digestPerson_56 : decode cX0_digestPerson 56 = .ok (.getfield 16, 3) := by decide +kernel
theorem dX0_digestPerson_59 : decode cX0_digestPerson 59 = .ok (.iload_n 3, 1) := by decide +kernel
theorem dX0_digestPerson_60 : decode cX0_digestPerson 60 = .ok (.aaload, 1) := by decide +kernel
theorem dX0_digestPerson_61 : decode cX0_digestPerson 61 = .ok (.iload 6, 2) := by decide +kernel
theorem dX0_digestPerson_63 : decode cX0_digestPerson 63 = .ok (.iaload, 1) := by decide +kernel
theorem dX0_digestPerson_64 : decode cX0_digestPerson 64 = .ok (.i2l, 1) := by decide +kernel
theorem dX0_digestPerson_65 : decode cX0_digestPerson 65 = .ok (.ladd, 1) := by decide +kernel
theorem dX0_digestPerson_66 : decode cX0_digestPerson 66 = .ok (.lstore 4, 2) := by decide +kernel
theorem dX0_digestPerson_68 : decode cX0_digestPerson 68 = .ok (.iinc 6 1, 3) := by decide +kernel
theorem dX0_digestPerson_71 : decode cX0_digestPerson 71 = .ok (.goto (-28), 3) := by decide +kernel
theorem dX0_digestPerson_74 : decode cX0_digestPerson 74 = .ok (.lload 4, 2) := by decide +kernel
theorem dX0_digestPerson_76 : decode cX0_digestPerson 76 = .ok (.lreturn, 1) := by decide +kernel
theorem dX1_init_0 : decode cX1_init 0 = .ok (.aload_n 0, 1) := by decide +kernel
theorem dX1_init_1 : decode cX1_init 1 = .ok (.invokespecial 3, 3) := by decide +kernel
theorem dX1_init_4 : decode cX1_init 4 = .ok (.aload_n 0, 1) := by decide +kernel
theorem dX1_init_5 : decode cX1_init 5 = .ok (.bipush 12, 2) := by decide +kernel
theorem dX1_init_7 : decode cX1_init 7 = .ok (.newarray .int, 2) := by decide +kernel
theorem dX1_init_9 : decode cX1_init 9 = .ok (.putfield 9, 3) := by decide +kernel
theorem dX1_init_12 : decode cX1_init 12 = .ok (.aload_n 0, 1) := by decide +kernel
theorem dX1_init_13 : decode cX1_init 13 = .ok (.bipush 12, 2) := by decide +kernel
theorem dX1_init_15 : decode cX1_init 15 = .ok (.newarray .boolean, 2) := by decide +kernel
theorem dX1_init_17 : decode cX1_init 17 = .ok (.putfield 15, 3) := by decide +kernel
theorem dX1_init_20 : decode cX1_init 20 = .ok (.aload_n 0, 1) := by decide +kernel
theorem dX1_init_21 : decode cX1_init 21 = .ok (.bipush 12, 2) := by decide +kernel
theorem dX1_init_23 : decode cX1_init 23 = .ok (.bipush 6, 2) := by decide +kernel
theorem dX1_init_25 : decode cX1_init 25 = .ok (.multianewarray 19 2, 4) := by decide +kernel
theorem dX1_init_29 : decode cX1_init 29 = .ok (.putfield 21, 3) := by decide +kernel
theorem dX1_init_32 : decode cX1_init 32 = .ok (.aload_n 0, 1) := by decide +kernel
theorem dX1_init_33 : decode cX1_init 33 = .ok (.bipush 12, 2) := by decide +kernel
theorem dX1_init_35 : decode cX1_init 35 = .ok (.bipush 6, 2) := by decide +kernel
theorem dX1_init_37 : decode cX1_init 37 = .ok (.multianewarray 19 2, 4) := by decide +kernel
theorem dX1_init_41 : decode cX1_init 41 = .ok (.putfield 24, 3) := by decide +kernel
theorem dX1_init_44 : decode cX1_init 44 = .ok (.return_, 1) := by decide +kernel
theorem dX1_hasPerson_0 : decode cX1_hasPerson 0 = .ok (.iload_n 1, 1) := by decide +kernel
theorem dX1_hasPerson_1 : decode cX1_hasPerson 1 = .ok (.ifCond .lt 15, 3) := by decide +kernel
theorem dX1_hasPerson_4 : decode cX1_hasPerson 4 = .ok (.iload_n 1, 1) := by decide +kernel
theorem dX1_hasPerson_5 : decode cX1_hasPerson 5 = .ok (.aload_n 0, 1) := by decide +kernel
theorem dX1_hasPerson_6 : decode cX1_hasPerson 6 = .ok (.getfield 27, 3) := by decide +kernel
theorem dX1_hasPerson_9 : decode cX1_hasPerson 9 = .ok (.if_icmp .ge 7, 3) := by decide +kernel
theorem dX1_hasPerson_12 : decode cX1_hasPerson 12 = .ok (.iconst 1, 1) := by decide +kernel
theorem dX1_hasPerson_13 : decode cX1_hasPerson 13 = .ok (.goto 4, 3) := by decide +kernel
theorem dX1_hasPerson_16 : decode cX1_hasPerson 16 = .ok (.iconst 0, 1) := by decide +kernel
theorem dX1_hasPerson_17 : decode cX1_hasPerson 17 = .ok (.ireturn, 1) := by decide +kernel
theorem dX1_hasQuestion_0 : decode cX1_hasQuestion 0 = .ok (.iload_n 1, 1) := by decide +kernel
theorem dX1_hasQuestion_1 : decode cX1_hasQuestion 1 = .ok (.ifCond .lt 15, 3) := by decide +kernel
theorem dX1_hasQuestion_4 : decode cX1_hasQuestion 4 = .ok (.iload_n 1, 1) := by decide +kernel
theorem dX1_hasQuestion_5 : decode cX1_hasQuestion 5 = .ok (.aload_n 0, 1) := by decide +kernel
theorem dX1_hasQuestion_6 : decode cX1_hasQuestion 6 = .ok (.getfield 31, 3) := by decide +kernel
theorem dX1_hasQuestion_9 : decode cX1_hasQuestion 9 = .ok (.if_icmp .ge 7, 3) := by decide +kernel
theorem dX1_hasQuestion_12 : decode cX1_hasQuestion 12 = .ok (.iconst 1, 1) := by decide +kernel
theorem dX1_hasQuestion_13 : decode cX1_hasQuestion 13 = .ok (.goto 4, 3) := by decide +kernel
theorem dX1_hasQuestion_16 : decode cX1_hasQuestion 16 = .ok (.iconst 0, 1) := by decide +kernel
theorem dX1_hasQuestion_17 : decode cX1_hasQuestion 17 = .ok (.ireturn, 1) := by decide +kernel
theorem dX1_addPerson_0 : decode cX1_addPerson 0 = .ok (.aload_n 0, 1) := by decide +kernel
theorem dX1_addPerson_1 : decode cX1_addPerson 1 = .ok (.getfield 9, 3) := by decide +kernel
theorem dX1_addPerson_4 : decode cX1_addPerson 4 = .ok (.aload_n 0, 1) := by decide +kernel
theorem dX1_addPerson_5 : decode cX1_addPerson 5 = .ok (.getfield 27, 3) := by decide +kernel
theorem dX1_addPerson_8 : decode cX1_addPerson 8 = .ok (.iload_n 1, 1) := by decide +kernel
theorem dX1_addPerson_9 : decode cX1_addPerson 9 = .ok (.iastore, 1) := by decide +kernel
theorem dX1_addPerson_10 : decode cX1_addPerson 10 = .ok (.aload_n 0, 1) := by decide +kernel
theorem dX1_addPerson_11 : decode cX1_addPerson 11 = .ok (.getfield 15, 3) := by decide +kernel
theorem dX1_addPerson_14 : decode cX1_addPerson 14 = .ok (.aload_n 0, 1) := by decide +kernel
theorem dX1_addPerson_15 : decode cX1_addPerson 15 = .ok (.getfield 27, 3) := by decide +kernel
theorem dX1_addPerson_18 : decode cX1_addPerson 18 = .ok (.iconst 1, 1) := by decide +kernel
theorem dX1_addPerson_19 : decode cX1_addPerson 19 = .ok (.bastore, 1) := by decide +kernel
theorem dX1_addPerson_20 : decode cX1_addPerson 20 = .ok (.aload_n 0, 1) := by decide +kernel
theorem dX1_addPerson_21 : decode cX1_addPerson 21 = .ok (.dup, 1) := by decide +kernel
theorem dX1_addPerson_22 : decode cX1_addPerson 22 = .ok (.getfield 27, 3) := by decide +kernel
theorem dX1_addPerson_25 : decode cX1_addPerson 25 = .ok (.iconst 1, 1) := by decide +kernel
theorem dX1_addPerson_26 : decode cX1_addPerson 26 = .ok (.iadd, 1) := by decide +kernel
theorem dX1_addPerson_27 : decode cX1_addPerson 27 = .ok (.putfield 27, 3) := by decide +kernel
theorem dX1_addPerson_30 : decode cX1_addPerson 30 = .ok (.aload_n 0, 1) := by decide +kernel
theorem dX1_addPerson_31 : decode cX1_addPerson 31 = .ok (.getfield 27, 3) := by decide +kernel
theorem dX1_addPerson_34 : decode cX1_addPerson 34 = .ok (.iconst 1, 1) := by decide +kernel
theorem dX1_addPerson_35 : decode cX1_addPerson 35 = .ok (.isub, 1) := by decide +kernel
theorem dX1_addPerson_36 : decode cX1_addPerson 36 = .ok (.ireturn, 1) := by decide +kernel
theorem dX1_peoplePresent_0 : decode cX1_peoplePresent 0 = .ok (.iconst 0, 1) := by decide +kernel
theorem dX1_peoplePresent_1 : decode cX1_peoplePresent 1 = .ok (.istore_n 1, 1) := by decide +kernel
theorem dX1_peoplePresent_2 : decode cX1_peoplePresent 2 = .ok (.iconst 0, 1) := by decide +kernel
theorem dX1_peoplePresent_3 : decode cX1_peoplePresent 3 = .ok (.istore_n 2, 1) := by decide +kernel
theorem dX1_peoplePresent_4 : decode cX1_peoplePresent 4 = .ok (.iload_n 2, 1) := by decide +kernel
theorem dX1_peoplePresent_5 : decode cX1_peoplePresent 5 = .ok (.aload_n 0, 1) := by decide +kernel
theorem dX1_peoplePresent_6 : decode cX1_peoplePresent 6 = .ok (.getfield 27, 3) := by decide +kernel
theorem dX1_peoplePresent_9 : decode cX1_peoplePresent 9 = .ok (.if_icmp .ge 21, 3) := by decide +kernel
theorem dX1_peoplePresent_12 : decode cX1_peoplePresent 12 = .ok (.aload_n 0, 1) := by decide +kernel
theorem dX1_peoplePresent_13 : decode cX1_peoplePresent 13 = .ok (.getfield 15, 3) := by decide +kernel
theorem dX1_peoplePresent_16 : decode cX1_peoplePresent 16 = .ok (.iload_n 2, 1) := by decide +kernel
theorem dX1_peoplePresent_17 : decode cX1_peoplePresent 17 = .ok (.baload, 1) := by decide +kernel
theorem dX1_peoplePresent_18 : decode cX1_peoplePresent 18 = .ok (.ifCond .eq 6, 3) := by decide +kernel
theorem dX1_peoplePresent_21 : decode cX1_peoplePresent 21 = .ok (.iinc 1 1, 3) := by decide +kernel
theorem dX1_peoplePresent_24 : decode cX1_peoplePresent 24 = .ok (.iinc 2 1, 3) := by decide +kernel
theorem dX1_peoplePresent_27 : decode cX1_peoplePresent 27 = .ok (.goto (-23), 3) := by decide +kernel
theorem dX1_peoplePresent_30 : decode cX1_peoplePresent 30 = .ok (.iload_n 1, 1) := by decide +kernel
theorem dX1_peoplePresent_31 : decode cX1_peoplePresent 31 = .ok (.ireturn, 1) := by decide +kernel
theorem dX1_costOf_0 : decode cX1_costOf 0 = .ok (.iconst 0, 1) := by decide +kernel
theorem dX1_costOf_1 : decode cX1_costOf 1 = .ok (.istore_n 2, 1) := by decide +kernel
theorem dX1_costOf_2 : decode cX1_costOf 2 = .ok (.iconst 0, 1) := by decide +kernel
theorem dX1_costOf_3 : decode cX1_costOf 3 = .ok (.istore_n 3, 1) := by decide +kernel
theorem dX1_costOf_4 : decode cX1_costOf 4 = .ok (.iload_n 3, 1) := by decide +kernel
theorem dX1_costOf_5 : decode cX1_costOf 5 = .ok (.aload_n 0, 1) := by decide +kernel
theorem dX1_costOf_6 : decode cX1_costOf 6 = .ok (.getfield 31, 3) := by decide +kernel
theorem dX1_costOf_9 : decode cX1_costOf 9 = .ok (.if_icmp .ge 29, 3) := by decide +kernel
theorem dX1_costOf_12 : decode cX1_costOf 12 = .ok (.iload_n 2, 1) := by decide +kernel
theorem dX1_costOf_13 : decode cX1_costOf 13 = .ok (.aload_n 0, 1) := by decide +kernel
theorem dX1_costOf_14 : decode cX1_costOf 14 = .ok (.getfield 21, 3) := by decide +kernel
theorem dX1_costOf_17 : decode cX1_costOf 17 = .ok (.iload_n 1, 1) := by decide +kernel
theorem dX1_costOf_18 : decode cX1_costOf 18 = .ok (.aaload, 1) := by decide +kernel
theorem dX1_costOf_19 : decode cX1_costOf 19 = .ok (.iload_n 3, 1) := by decide +kernel
theorem dX1_costOf_20 : decode cX1_costOf 20 = .ok (.iaload, 1) := by decide +kernel
theorem dX1_costOf_21 : decode cX1_costOf 21 = .ok (.aload_n 0, 1) := by decide +kernel
theorem dX1_costOf_22 : decode cX1_costOf 22 = .ok (.getfield 21, 3) := by decide +kernel
theorem dX1_costOf_25 : decode cX1_costOf 25 = .ok (.iload_n 1, 1) := by decide +kernel
theorem dX1_costOf_26 : decode cX1_costOf 26 = .ok (.aaload, 1) := by decide +kernel
theorem dX1_costOf_27 : decode cX1_costOf 27 = .ok (.iload_n 3, 1) := by decide +kernel
theorem dX1_costOf_28 : decode cX1_costOf 28 = .ok (.iaload, 1) := by decide +kernel
theorem dX1_costOf_29 : decode cX1_costOf 29 = .ok (.imul, 1) := by decide +kernel
theorem dX1_costOf_30 : decode cX1_costOf 30 = .ok (.iadd, 1) := by decide +kernel
theorem dX1_costOf_31 : decode cX1_costOf 31 = .ok (.istore_n 2, 1) := by decide +kernel
theorem dX1_costOf_32 : decode cX1_costOf 32 = .ok (.iinc 3 1, 3) := by decide +kernel
theorem dX1_costOf_35 : decode cX1_costOf 35 = .ok (.goto (-31), 3) := by decide +kernel
theorem dX1_costOf_38 : decode cX1_costOf 38 = .ok (.iload_n 2, 1) := by decide +kernel
theorem dX1_costOf_39 : decode cX1_costOf 39 = .ok (.ireturn, 1) := by decide +kernel
theorem dX1_countOf_0 : decode cX1_countOf 0 = .ok (.iconst 0, 1) := by decide +kernel
theorem dX1_countOf_1 : decode cX1_countOf 1 = .ok (.istore_n 2, 1) := by decide +kernel
theorem dX1_countOf_2 : decode cX1_countOf 2 = .ok (.iconst 0, 1) := by decide +kernel
theorem dX1_countOf_3 : decode cX1_countOf 3 = .ok (.istore_n 3, 1) := by decide +kernel
theorem dX1_countOf_4 : decode cX1_countOf 4 = .ok (.iload_n 3, 1) := by decide +kernel
theorem dX1_countOf_5 : decode cX1_countOf 5 = .ok (.aload_n 0, 1) := by decide +kernel
theorem dX1_countOf_6 : decode cX1_countOf 6 = .ok (.getfield 27, 3) := by decide +kernel
theorem dX1_countOf_9 : decode cX1_countOf 9 = .ok (.if_icmp .ge 29, 3) := by decide +kernel
theorem dX1_countOf_12 : decode cX1_countOf 12 = .ok (.aload_n 0, 1) := by decide +kernel
theorem dX1_countOf_13 : decode cX1_countOf 13 = .ok (.getfield 15, 3) := by decide +kernel
theorem dX1_countOf_16 : decode cX1_countOf 16 = .ok (.iload_n 3, 1) := by decide +kernel
theorem dX1_countOf_17 : decode cX1_countOf 17 = .ok (.baload, 1) := by decide +kernel
theorem dX1_countOf_18 : decode cX1_countOf 18 = .ok (.ifCond .eq 14, 3) := by decide +kernel
theorem dX1_countOf_21 : decode cX1_countOf 21 = .ok (.iload_n 2, 1) := by decide +kernel
theorem dX1_countOf_22 : decode cX1_countOf 22 = .ok (.aload_n 0, 1) := by decide +kernel
theorem dX1_countOf_23 : decode cX1_countOf 23 = .ok (.getfield 21, 3) := by decide +kernel
theorem dX1_countOf_26 : decode cX1_countOf 26 = .ok (.iload_n 3, 1) := by decide +kernel
theorem dX1_countOf_27 : decode cX1_countOf 27 = .ok (.aaload, 1) := by decide +kernel
theorem dX1_countOf_28 : decode cX1_countOf 28 = .ok (.iload_n 1, 1) := by decide +kernel
theorem dX1_countOf_29 : decode cX1_countOf 29 = .ok (.iaload, 1) := by decide +kernel
theorem dX1_countOf_30 : decode cX1_countOf 30 = .ok (.iadd, 1) := by decide +kernel
theorem dX1_countOf_31 : decode cX1_countOf 31 = .ok (.istore_n 2, 1) := by decide +kernel
theorem dX1_countOf_32 : decode cX1_countOf 32 = .ok (.iinc 3 1, 3) := by decide +kernel
theorem dX1_countOf_35 : decode cX1_countOf 35 = .ok (.goto (-31), 3) := by decide +kernel
theorem dX1_countOf_38 : decode cX1_countOf 38 = .ok (.iload_n 2, 1) := by decide +kernel
theorem dX1_countOf_39 : decode cX1_countOf 39 = .ok (.ireturn, 1) := by decide +kernel
theorem dX1_countWithout_0 : decode cX1_countWithout 0 = .ok (.aload_n 0, 1) := by decide +kernel
theorem dX1_countWithout_1 : decode cX1_countWithout 1 = .ok (.iload_n 2, 1) := by decide +kernel
theorem dX1_countWithout_2 : decode cX1_countWithout 2 = .ok (.invokevirtual 34, 3) := by decide +kernel
theorem dX1_countWithout_5 : decode cX1_countWithout 5 = .ok (.istore_n 3, 1) := by decide +kernel
theorem dX1_countWithout_6 : decode cX1_countWithout 6 = .ok (.aload_n 0, 1) := by decide +kernel
theorem dX1_countWithout_7 : decode cX1_countWithout 7 = .ok (.getfield 15, 3) := by decide +kernel
theorem dX1_countWithout_10 : decode cX1_countWithout 10 = .ok (.iload_n 1, 1) := by decide +kernel
theorem dX1_countWithout_11 : decode cX1_countWithout 11 = .ok (.baload, 1) := by decide +kernel
theorem dX1_countWithout_12 : decode cX1_countWithout 12 = .ok (.ifCond .eq 16, 3) := by decide +kernel
theorem dX1_countWithout_15 : decode cX1_countWithout 15 = .ok (.iload_n 3, 1) := by decide +kernel
theorem dX1_countWithout_16 : decode cX1_countWithout 16 = .ok (.aload_n 0, 1) := by decide +kernel
theorem dX1_countWithout_17 : decode cX1_countWithout 17 = .ok (.getfield 21, 3) := by decide +kernel
theorem dX1_countWithout_20 : decode cX1_countWithout 20 = .ok (.iload_n 1, 1) := by decide +kernel
theorem dX1_countWithout_21 : decode cX1_countWithout 21 = .ok (.aaload, 1) := by decide +kernel
theorem dX1_countWithout_22 : decode cX1_countWithout 22 = .ok (.iload_n 2, 1) := by decide +kernel
theorem dX1_countWithout_23 : decode cX1_countWithout 23 = .ok (.iaload, 1) := by decide +kernel
theorem dX1_countWithout_24 : decode cX1_countWithout 24 = .ok (.isub, 1) := by decide +kernel
theorem dX1_countWithout_25 : decode cX1_countWithout 25 = .ok (.goto 4, 3) := by decide +kernel
theorem dX1_countWithout_28 : decode cX1_countWithout 28 = .ok (.iload_n 3, 1) := by decide +kernel
theorem dX1_countWithout_29 : decode cX1_countWithout 29 = .ok (.ireturn, 1) := by decide +kernel
theorem dX1_resultOf_0 : decode cX1_resultOf 0 = .ok (.iload_n 2, 1) := by decide +kernel
theorem dX1_resultOf_1 : decode cX1_resultOf 1 = .ok (.ifCond .eq 13, 3) := by decide +kernel
theorem dX1_resultOf_4 : decode cX1_resultOf 4 = .ok (.iload_n 2, 1) := by decide +kernel
theorem dX1_resultOf_5 : decode cX1_resultOf 5 = .ok (.ifCond .le 7, 3) := by decide +kernel
theorem dX1_resultOf_8 : decode cX1_resultOf 8 = .ok (.iconst 1, 1) := by decide +kernel
theorem dX1_resultOf_9 : decode cX1_resultOf 9 = .ok (.goto 4, 3) := by decide +kernel
theorem dX1_resultOf_12 : decode cX1_resultOf 12 = .ok (.iconst (-1), 1) := by decide +kernel
theorem dX1_resultOf_13 : decode cX1_resultOf 13 = .ok (.ireturn, 1) := by decide +kernel
theorem dX1_resultOf_14 : decode cX1_resultOf 14 = .ok (.aload_n 0, 1) := by decide +kernel
theorem dX1_resultOf_15 : decode cX1_resultOf 15 = .ok (.getfield 38, 3) := by decide +kernel
theorem dX1_resultOf_18 : decode cX1_resultOf 18 = .ok (.istore_n 3, 1) := by decide +kernel
theorem dX1_resultOf_19 : decode cX1_resultOf 19 = .ok (.iconst 0, 1) := by decide +kernel
theorem dX1_resultOf_20 : decode cX1_resultOf 20 = .ok (.istore 4, 2) := by decide +kernel
theorem dX1_resultOf_22 : decode cX1_resultOf 22 = .ok (.iload 4, 2) := by decide +kernel
theorem dX1_resultOf_24 : decode cX1_resultOf 24 = .ok (.iload_n 1, 1) := by decide +kernel
theorem dX1_resultOf_25 : decode cX1_resultOf 25 = .ok (.if_icmp .gt 17, 3) := by decide +kernel
theorem dX1_resultOf_28 : decode cX1_resultOf 28 = .ok (.iload_n 3, 1) := by decide +kernel
theorem dX1_resultOf_29 : decode cX1_resultOf 29 = .ok (.ldc 41, 2) := by decide +kernel
theorem dX1_resultOf_31 : decode cX1_resultOf 31 = .ok (.imul, 1) := by decide +kernel
theorem dX1_resultOf_32 : decode cX1_resultOf 32 = .ok (.ldc 42, 2) := by decide +kernel
theorem dX1_resultOf_34 : decode cX1_resultOf 34 = .ok (.iadd, 1) := by decide +kernel
theorem dX1_resultOf_35 : decode cX1_resultOf 35 = .ok (.istore_n 3, 1) := by decide +kernel
theorem dX1_resultOf_36 : decode cX1_resultOf 36 = .ok (.iinc 4 1, 3) := by decide +kernel
theorem dX1_resultOf_39 : decode cX1_resultOf 39 = .ok (.goto (-17), 3) := by decide +kernel
theorem dX1_resultOf_42 : decode cX1_resultOf 42 = .ok (.iload_n 3, 1) := by decide +kernel
theorem dX1_resultOf_43 : decode cX1_resultOf 43 = .ok (.bipush 20, 2) := by decide +kernel
theorem dX1_resultOf_45 : decode cX1_resultOf 45 = .ok (.iushr, 1) := by decide +kernel
theorem dX1_resultOf_46 : decode cX1_resultOf 46 = .ok (.iconst 1, 1) := by decide +kernel
theorem dX1_resultOf_47 : decode cX1_resultOf 47 = .ok (.iand, 1) := by decide +kernel
theorem dX1_resultOf_48 : decode cX1_resultOf 48 = .ok (.iconst 1, 1) := by decide +kernel
theorem dX1_resultOf_49 : decode cX1_resultOf 49 = .ok (.if_icmp .ne 7, 3) := by decide +kernel
theorem dX1_resultOf_52 : decode cX1_resultOf 52 = .ok (.iconst 1, 1) := by decide +kernel
theorem dX1_resultOf_53 : decode cX1_resultOf 53 = .ok (.goto 4, 3) := by decide +kernel
theorem dX1_resultOf_56 : decode cX1_resultOf 56 = .ok (.iconst (-1), 1) := by decide +kernel
theorem dX1_resultOf_57 : decode cX1_resultOf 57 = .ok (.ireturn, 1) := by decide +kernel
theorem dX1_gainOf_0 : decode cX1_gainOf 0 = .ok (.iconst 0, 1) := by decide +kernel
theorem dX1_gainOf_1 : decode cX1_gainOf 1 = .ok (.istore_n 2, 1) := by decide +kernel
theorem dX1_gainOf_2 : decode cX1_gainOf 2 = .ok (.iconst 0, 1) := by decide +kernel
theorem dX1_gainOf_3 : decode cX1_gainOf 3 = .ok (.istore_n 3, 1) := by decide +kernel
theorem dX1_gainOf_4 : decode cX1_gainOf 4 = .ok (.iload_n 3, 1) := by decide +kernel
theorem dX1_gainOf_5 : decode cX1_gainOf 5 = .ok (.aload_n 0, 1) := by decide +kernel
theorem dX1_gainOf_6 : decode cX1_gainOf 6 = .ok (.getfield 31, 3) := by decide +kernel
theorem dX1_gainOf_9 : decode cX1_gainOf 9 = .ok (.if_icmp .ge 28, 3) := by decide +kernel
theorem dX1_gainOf_12 : decode cX1_gainOf 12 = .ok (.iload_n 2, 1) := by decide +kernel
theorem dX1_gainOf_13 : decode cX1_gainOf 13 = .ok (.aload_n 0, 1) := by decide +kernel
theorem dX1_gainOf_14 : decode cX1_gainOf 14 = .ok (.iload_n 3, 1) := by decide +kernel
theorem dX1_gainOf_15 : decode cX1_gainOf 15 = .ok (.invokevirtual 34, 3) := by decide +kernel
theorem dX1_gainOf_18 : decode cX1_gainOf 18 = .ok (.aload_n 0, 1) := by decide +kernel
theorem dX1_gainOf_19 : decode cX1_gainOf 19 = .ok (.getfield 24, 3) := by decide +kernel
theorem dX1_gainOf_22 : decode cX1_gainOf 22 = .ok (.iload_n 1, 1) := by decide +kernel
theorem dX1_gainOf_23 : decode cX1_gainOf 23 = .ok (.aaload, 1) := by decide +kernel
theorem dX1_gainOf_24 : decode cX1_gainOf 24 = .ok (.iload_n 3, 1) := by decide +kernel
theorem dX1_gainOf_25 : decode cX1_gainOf 25 = .ok (.iaload, 1) := by decide +kernel
theorem dX1_gainOf_26 : decode cX1_gainOf 26 = .ok (.invokestatic 43, 3) := by decide +kernel
theorem dX1_gainOf_29 : decode cX1_gainOf 29 = .ok (.iadd, 1) := by decide +kernel
theorem dX1_gainOf_30 : decode cX1_gainOf 30 = .ok (.istore_n 2, 1) := by decide +kernel
theorem dX1_gainOf_31 : decode cX1_gainOf 31 = .ok (.iinc 3 1, 3) := by decide +kernel
theorem dX1_gainOf_34 : decode cX1_gainOf 34 = .ok (.goto (-30), 3) := by decide +kernel
theorem dX1_gainOf_37 : decode cX1_gainOf 37 = .ok (.iload_n 2, 1) := by decide +kernel
theorem dX1_gainOf_38 : decode cX1_gainOf 38 = .ok (.ireturn, 1) := by decide +kernel
theorem dX1_gainBy_0 : decode cX1_gainBy 0 = .ok (.iload_n 0, 1) := by decide +kernel
theorem dX1_gainBy_1 : decode cX1_gainBy 1 = .ok (.ifCond .ge 5, 3) := by decide +kernel
theorem dX1_gainBy_4 : decode cX1_gainBy 4 = .ok (.iconst 0, 1) := by decide +kernel
theorem dX1_gainBy_5 : decode cX1_gainBy 5 = .ok (.ireturn, 1) := by decide +kernel
theorem dX1_gainBy_6 : decode cX1_gainBy 6 = .ok (.iload_n 0, 1) := by decide +kernel
theorem dX1_gainBy_7 : decode cX1_gainBy 7 = .ok (.ifCond .ne 7, 3) := by decide +kernel
theorem dX1_gainBy_10 : decode cX1_gainBy 10 = .ok (.iload_n 1, 1) := by decide +kernel
theorem dX1_gainBy_11 : decode cX1_gainBy 11 = .ok (.goto 6, 3) := by decide +kernel
theorem dX1_gainBy_14 : decode cX1_gainBy 14 = .ok (.iconst 2, 1) := by decide +kernel
theorem dX1_gainBy_15 : decode cX1_gainBy 15 = .ok (.iload_n 1, 1) := by decide +kernel
theorem dX1_gainBy_16 : decode cX1_gainBy 16 = .ok (.imul, 1) := by decide +kernel
theorem dX1_gainBy_17 : decode cX1_gainBy 17 = .ok (.ireturn, 1) := by decide +kernel
theorem dX1_swingsOf_0 : decode cX1_swingsOf 0 = .ok (.iconst 0, 1) := by decide +kernel
theorem dX1_swingsOf_1 : decode cX1_swingsOf 1 = .ok (.istore_n 2, 1) := by decide +kernel
theorem dX1_swingsOf_2 : decode cX1_swingsOf 2 = .ok (.iconst 0, 1) := by decide +kernel
theorem dX1_swingsOf_3 : decode cX1_swingsOf 3 = .ok (.istore_n 3, 1) := by decide +kernel
theorem dX1_swingsOf_4 : decode cX1_swingsOf 4 = .ok (.iload_n 3, 1) := by decide +kernel
theorem dX1_swingsOf_5 : decode cX1_swingsOf 5 = .ok (.aload_n 0, 1) := by decide +kernel
theorem dX1_swingsOf_6 : decode cX1_swingsOf 6 = .ok (.getfield 31, 3) := by decide +kernel
theorem dX1_swingsOf_9 : decode cX1_swingsOf 9 = .ok (.if_icmp .ge 49, 3) := by decide +kernel
theorem dX1_swingsOf_12 : decode cX1_swingsOf 12 = .ok (.aload_n 0, 1) := by decide +kernel
theorem dX1_swingsOf_13 : decode cX1_swingsOf 13 = .ok (.iload_n 1, 1) := by decide +kernel
theorem dX1_swingsOf_14 : decode cX1_swingsOf 14 = .ok (.iload_n 3, 1) := by decide +kernel
theorem dX1_swingsOf_15 : decode cX1_swingsOf 15 = .ok (.invokevirtual 47, 3) := by decide +kernel
theorem dX1_swingsOf_18 : decode cX1_swingsOf 18 = .ok (.istore 4, 2) := by decide +kernel
theorem dX1_swingsOf_20 : decode cX1_swingsOf 20 = .ok (.aload_n 0, 1) := by decide +kernel
theorem dX1_swingsOf_21 : decode cX1_swingsOf 21 = .ok (.iload_n 3, 1) := by decide +kernel
theorem dX1_swingsOf_22 : decode cX1_swingsOf 22 = .ok (.iload 4, 2) := by decide +kernel
theorem dX1_swingsOf_24 : decode cX1_swingsOf 24 = .ok (.invokevirtual 50, 3) := by decide +kernel
theorem dX1_swingsOf_27 : decode cX1_swingsOf 27 = .ok (.aload_n 0, 1) := by decide +kernel
theorem dX1_swingsOf_28 : decode cX1_swingsOf 28 = .ok (.iload_n 3, 1) := by decide +kernel
theorem dX1_swingsOf_29 : decode cX1_swingsOf 29 = .ok (.iload 4, 2) := by decide +kernel
theorem dX1_swingsOf_31 : decode cX1_swingsOf 31 = .ok (.aload_n 0, 1) := by decide +kernel
theorem dX1_swingsOf_32 : decode cX1_swingsOf 32 = .ok (.getfield 21, 3) := by decide +kernel
theorem dX1_swingsOf_35 : decode cX1_swingsOf 35 = .ok (.iload_n 1, 1) := by decide +kernel
theorem dX1_swingsOf_36 : decode cX1_swingsOf 36 = .ok (.aaload, 1) := by decide +kernel
theorem dX1_swingsOf_37 : decode cX1_swingsOf 37 = .ok (.iload_n 3, 1) := by decide +kernel
theorem dX1_swingsOf_38 : decode cX1_swingsOf 38 = .ok (.iaload, 1) := by decide +kernel
theorem dX1_swingsOf_39 : decode cX1_swingsOf 39 = .ok (.iadd, 1) := by decide +kernel
theorem dX1_swingsOf_40 : decode cX1_swingsOf 40 = .ok (.invokevirtual 50, 3) := by decide +kernel
theorem dX1_swingsOf_43 : decode cX1_swingsOf 43 = .ok (.if_icmp .eq 9, 3) := by decide +kernel
theorem dX1_swingsOf_46 : decode cX1_swingsOf 46 = .ok (.iload_n 2, 1) := by decide +kernel
theorem dX1_swingsOf_47 : decode cX1_swingsOf 47 = .ok (.iconst 1, 1) := by decide +kernel
theorem dX1_swingsOf_48 : decode cX1_swingsOf 48 = .ok (.iload_n 3, 1) := by decide +kernel
theorem dX1_swingsOf_49 : decode cX1_swingsOf 49 = .ok (.ishl, 1) := by decide +kernel
theorem dX1_swingsOf_50 : decode cX1_swingsOf 50 = .ok (.ior, 1) := by decide +kernel
theorem dX1_swingsOf_51 : decode cX1_swingsOf 51 = .ok (.istore_n 2, 1) := by decide +kernel
theorem dX1_swingsOf_52 : decode cX1_swingsOf 52 = .ok (.iinc 3 1, 3) := by decide +kernel
theorem dX1_swingsOf_55 : decode cX1_swingsOf 55 = .ok (.goto (-51), 3) := by decide +kernel
theorem dX1_swingsOf_58 : decode cX1_swingsOf 58 = .ok (.iload_n 2, 1) := by decide +kernel
theorem dX1_swingsOf_59 : decode cX1_swingsOf 59 = .ok (.ireturn, 1) := by decide +kernel
theorem dX1_likenessOf_0 : decode cX1_likenessOf 0 = .ok (.aload_n 0, 1) := by decide +kernel
theorem dX1_likenessOf_1 : decode cX1_likenessOf 1 = .ok (.iload_n 1, 1) := by decide +kernel
theorem dX1_likenessOf_2 : decode cX1_likenessOf 2 = .ok (.invokevirtual 53, 3) := by decide +kernel
theorem dX1_likenessOf_5 : decode cX1_likenessOf 5 = .ok (.i2l, 1) := by decide +kernel
theorem dX1_likenessOf_6 : decode cX1_likenessOf 6 = .ok (.aload_n 0, 1) := by decide +kernel
theorem dX1_likenessOf_7 : decode cX1_likenessOf 7 = .ok (.iload_n 2, 1) := by decide +kernel
theorem dX1_likenessOf_8 : decode cX1_likenessOf 8 = .ok (.invokevirtual 53, 3) := by decide +kernel
theorem dX1_likenessOf_11 : decode cX1_likenessOf 11 = .ok (.i2l, 1) := by decide +kernel
theorem dX1_likenessOf_12 : decode cX1_likenessOf 12 = .ok (.lmul, 1) := by decide +kernel
theorem dX1_likenessOf_13 : decode cX1_likenessOf 13 = .ok (.lstore_n 3, 1) := by decide +kernel
theorem dX1_likenessOf_14 : decode cX1_likenessOf 14 = .ok (.lload_n 3, 1) := by decide +kernel
theorem dX1_likenessOf_15 : decode cX1_likenessOf 15 = .ok (.lconst 0, 1) := by decide +kernel
theorem dX1_likenessOf_16 : decode cX1_likenessOf 16 = .ok (.lcmp, 1) := by decide +kernel
theorem dX1_likenessOf_17 : decode cX1_likenessOf 17 = .ok (.ifCond .ne 7, 3) := by decide +kernel
theorem dX1_likenessOf_20 : decode cX1_likenessOf 20 = .ok (.sipush (-2000), 3) := by decide +kernel
theorem dX1_likenessOf_23 : decode cX1_likenessOf 23 = .ok (.ireturn, 1) := by decide +kernel
theorem dX1_likenessOf_24 : decode cX1_likenessOf 24 = .ok (.lconst 0, 1) := by decide +kernel
theorem dX1_likenessOf_25 : decode cX1_likenessOf 25 = .ok (.lstore 5, 2) := by decide +kernel
theorem dX1_likenessOf_27 : decode cX1_likenessOf 27 = .ok (.iconst 0, 1) := by decide +kernel
theorem dX1_likenessOf_28 : decode cX1_likenessOf 28 = .ok (.istore 7, 2) := by decide +kernel
theorem dX1_likenessOf_30 : decode cX1_likenessOf 30 = .ok (.iload 7, 2) := by decide +kernel
theorem dX1_likenessOf_32 : decode cX1_likenessOf 32 = .ok (.aload_n 0, 1) := by decide +kernel
theorem dX1_likenessOf_33 : decode cX1_likenessOf 33 = .ok (.getfield 31, 3) := by decide +kernel
theorem dX1_likenessOf_36 : decode cX1_likenessOf 36 = .ok (.if_icmp .ge 34, 3) := by decide +kernel
theorem dX1_likenessOf_39 : decode cX1_likenessOf 39 = .ok (.lload 5, 2) := by decide +kernel
theorem dX1_likenessOf_41 : decode cX1_likenessOf 41 = .ok (.aload_n 0, 1) := by decide +kernel
theorem dX1_likenessOf_42 : decode cX1_likenessOf 42 = .ok (.getfield 21, 3) := by decide +kernel
theorem dX1_likenessOf_45 : decode cX1_likenessOf 45 = .ok (.iload_n 1, 1) := by decide +kernel
theorem dX1_likenessOf_46 : decode cX1_likenessOf 46 = .ok (.aaload, 1) := by decide +kernel
theorem dX1_likenessOf_47 : decode cX1_likenessOf 47 = .ok (.iload 7, 2) := by decide +kernel
theorem dX1_likenessOf_49 : decode cX1_likenessOf 49 = .ok (.iaload, 1) := by decide +kernel
theorem dX1_likenessOf_50 : decode cX1_likenessOf 50 = .ok (.aload_n 0, 1) := by decide +kernel
theorem dX1_likenessOf_51 : decode cX1_likenessOf 51 = .ok (.getfield 21, 3) := by decide +kernel
theorem dX1_likenessOf_54 : decode cX1_likenessOf 54 = .ok (.iload_n 2, 1) := by decide +kernel
theorem dX1_likenessOf_55 : decode cX1_likenessOf 55 = .ok (.aaload, 1) := by decide +kernel
theorem dX1_likenessOf_56 : decode cX1_likenessOf 56 = .ok (.iload 7, 2) := by decide +kernel
theorem dX1_likenessOf_58 : decode cX1_likenessOf 58 = .ok (.iaload, 1) := by decide +kernel
theorem dX1_likenessOf_59 : decode cX1_likenessOf 59 = .ok (.imul, 1) := by decide +kernel
theorem dX1_likenessOf_60 : decode cX1_likenessOf 60 = .ok (.i2l, 1) := by decide +kernel
theorem dX1_likenessOf_61 : decode cX1_likenessOf 61 = .ok (.ladd, 1) := by decide +kernel
theorem dX1_likenessOf_62 : decode cX1_likenessOf 62 = .ok (.lstore 5, 2) := by decide +kernel
theorem dX1_likenessOf_64 : decode cX1_likenessOf 64 = .ok (.iinc 7 1, 3) := by decide +kernel
theorem dX1_likenessOf_67 : decode cX1_likenessOf 67 = .ok (.goto (-37), 3) := by decide +kernel
theorem dX1_likenessOf_70 : decode cX1_likenessOf 70 = .ok (.lload 5, 2) := by decide +kernel
theorem dX1_likenessOf_72 : decode cX1_likenessOf 72 = .ok (.lload 5, 2) := by decide +kernel
theorem dX1_likenessOf_74 : decode cX1_likenessOf 74 = .ok (.lmul, 1) := by decide +kernel
theorem dX1_likenessOf_75 : decode cX1_likenessOf 75 = .ok (.ldc2_w 56, 3) := by decide +kernel
theorem dX1_likenessOf_78 : decode cX1_likenessOf 78 = .ok (.lmul, 1) := by decide +kernel
theorem dX1_likenessOf_79 : decode cX1_likenessOf 79 = .ok (.lload_n 3, 1) := by decide +kernel
theorem dX1_likenessOf_80 : decode cX1_likenessOf 80 = .ok (.ldiv, 1) := by decide +kernel
theorem dX1_likenessOf_81 : decode cX1_likenessOf 81 = .ok (.l2i, 1) := by decide +kernel
theorem dX1_likenessOf_82 : decode cX1_likenessOf 82 = .ok (.istore 7, 2) := by decide +kernel
theorem dX1_likenessOf_84 : decode cX1_likenessOf 84 = .ok (.lload 5, 2) := by decide +kernel
theorem dX1_likenessOf_86 : decode cX1_likenessOf 86 = .ok (.lconst 0, 1) := by decide +kernel
theorem dX1_likenessOf_87 : decode cX1_likenessOf 87 = .ok (.lcmp, 1) := by decide +kernel
theorem dX1_likenessOf_88 : decode cX1_likenessOf 88 = .ok (.ifCond .ge 9, 3) := by decide +kernel
theorem dX1_likenessOf_91 : decode cX1_likenessOf 91 = .ok (.iload 7, 2) := by decide +kernel
theorem dX1_likenessOf_93 : decode cX1_likenessOf 93 = .ok (.ineg, 1) := by decide +kernel
theorem dX1_likenessOf_94 : decode cX1_likenessOf 94 = .ok (.goto 5, 3) := by decide +kernel
theorem dX1_likenessOf_97 : decode cX1_likenessOf 97 = .ok (.iload 7, 2) := by decide +kernel
theorem dX1_likenessOf_99 : decode cX1_likenessOf 99 = .ok (.ireturn, 1) := by decide +kernel
theorem dX1_groupOf_0 : decode cX1_groupOf 0 = .ok (.iconst 1, 1) := by decide +kernel
theorem dX1_groupOf_1 : decode cX1_groupOf 1 = .ok (.iload_n 1, 1) := by decide +kernel
theorem dX1_groupOf_2 : decode cX1_groupOf 2 = .ok (.ishl, 1) := by decide +kernel
theorem dX1_groupOf_3 : decode cX1_groupOf 3 = .ok (.istore_n 3, 1) := by decide +kernel
theorem dX1_groupOf_4 : decode cX1_groupOf 4 = .ok (.iconst 0, 1) := by decide +kernel
theorem dX1_groupOf_5 : decode cX1_groupOf 5 = .ok (.istore 4, 2) := by decide +kernel
theorem dX1_groupOf_7 : decode cX1_groupOf 7 = .ok (.iconst 0, 1) := by decide +kernel
theorem dX1_groupOf_8 : decode cX1_groupOf 8 = .ok (.istore 5, 2) := by decide +kernel
theorem dX1_groupOf_10 : decode cX1_groupOf 10 = .ok (.iload 5, 2) := by decide +kernel
theorem dX1_groupOf_12 : decode cX1_groupOf 12 = .ok (.aload_n 0, 1) := by decide +kernel
theorem dX1_groupOf_13 : decode cX1_groupOf 13 = .ok (.getfield 27, 3) := by decide +kernel
theorem dX1_groupOf_16 : decode cX1_groupOf 16 = .ok (.if_icmp .ge 56, 3) := by decide +kernel
theorem dX1_groupOf_19 : decode cX1_groupOf 19 = .ok (.iload_n 3, 1) := by decide +kernel
theorem dX1_groupOf_20 : decode cX1_groupOf 20 = .ok (.iload 4, 2) := by decide +kernel
theorem dX1_groupOf_22 : decode cX1_groupOf 22 = .ok (.if_icmp .eq 50, 3) := by decide +kernel
theorem dX1_groupOf_25 : decode cX1_groupOf 25 = .ok (.iload_n 3, 1) := by decide +kernel
theorem dX1_groupOf_26 : decode cX1_groupOf 26 = .ok (.istore 4, 2) := by decide +kernel
theorem dX1_groupOf_28 : decode cX1_groupOf 28 = .ok (.iconst 0, 1) := by decide +kernel
theorem dX1_groupOf_29 : decode cX1_groupOf 29 = .ok (.istore 6, 2) := by decide +kernel
theorem dX1_groupOf_31 : decode cX1_groupOf 31 = .ok (.iload 6, 2) := by decide +kernel
theorem dX1_groupOf_33 : decode cX1_groupOf 33 = .ok (.aload_n 0, 1) := by decide +kernel
theorem dX1_groupOf_34 : decode cX1_groupOf 34 = .ok (.getfield 27, 3) := by decide +kernel
theorem dX1_groupOf_37 : decode cX1_groupOf 37 = .ok (.if_icmp .ge 29, 3) := by decide +kernel
theorem dX1_groupOf_40 : decode cX1_groupOf 40 = .ok (.iload_n 3, 1) := by decide +kernel
theorem dX1_groupOf_41 : decode cX1_groupOf 41 = .ok (.iload 6, 2) := by decide +kernel
theorem dX1_groupOf_43 : decode cX1_groupOf 43 = .ok (.ishr, 1) := by decide +kernel
theorem dX1_groupOf_44 : decode cX1_groupOf 44 = .ok (.iconst 1, 1) := by decide +kernel
theorem dX1_groupOf_45 : decode cX1_groupOf 45 = .ok (.iand, 1) := by decide +kernel
theorem dX1_groupOf_46 : decode cX1_groupOf 46 = .ok (.iconst 1, 1) := by decide +kernel
theorem dX1_groupOf_47 : decode cX1_groupOf 47 = .ok (.if_icmp .ne 13, 3) := by decide +kernel
theorem dX1_groupOf_50 : decode cX1_groupOf 50 = .ok (.iload_n 3, 1) := by decide +kernel
theorem dX1_groupOf_51 : decode cX1_groupOf 51 = .ok (.aload_n 0, 1) := by decide +kernel
theorem dX1_groupOf_52 : decode cX1_groupOf 52 = .ok (.iload 6, 2) := by decide +kernel
theorem dX1_groupOf_54 : decode cX1_groupOf 54 = .ok (.iload_n 2, 1) := by decide +kernel
theorem dX1_groupOf_55 : decode cX1_groupOf 55 = .ok (.invokevirtual 58, 3) := by decide +kernel
theorem dX1_groupOf_58 : decode cX1_groupOf 58 = .ok (.ior, 1) := by decide +kernel
theorem dX1_groupOf_59 : decode cX1_groupOf 59 = .ok (.istore_n 3, 1) := by decide +kernel
theorem dX1_groupOf_60 : decode cX1_groupOf 60 = .ok (.iinc 6 1, 3) := by decide +kernel
theorem dX1_groupOf_63 : decode cX1_groupOf 63 = .ok (.goto (-32), 3) := by decide +kernel
theorem dX1_groupOf_66 : decode cX1_groupOf 66 = .ok (.iinc 5 1, 3) := by decide +kernel
theorem dX1_groupOf_69 : decode cX1_groupOf 69 = .ok (.goto (-59), 3) := by decide +kernel
theorem dX1_groupOf_72 : decode cX1_groupOf 72 = .ok (.iload_n 3, 1) := by decide +kernel
theorem dX1_groupOf_73 : decode cX1_groupOf 73 = .ok (.ireturn, 1) := by decide +kernel
theorem dX1_alikeTo_0 : decode cX1_alikeTo 0 = .ok (.iconst 0, 1) := by decide +kernel
theorem dX1_alikeTo_1 : decode cX1_alikeTo 1 = .ok (.istore_n 3, 1) := by decide +kernel
theorem dX1_alikeTo_2 : decode cX1_alikeTo 2 = .ok (.iconst 0, 1) := by decide +kernel
theorem dX1_alikeTo_3 : decode cX1_alikeTo 3 = .ok (.istore 4, 2) := by decide +kernel
theorem dX1_alikeTo_5 : decode cX1_alikeTo 5 = .ok (.iload 4, 2) := by decide +kernel
theorem dX1_alikeTo_7 : decode cX1_alikeTo 7 = .ok (.aload_n 0, 1) := by decide +kernel
theorem dX1_alikeTo_8 : decode cX1_alikeTo 8 = .ok (.getfield 27, 3) := by decide +kernel
theorem dX1_alikeTo_11 : decode cX1_alikeTo 11 = .ok (.if_icmp .ge 27, 3) := by decide +kernel
theorem dX1_alikeTo_14 : decode cX1_alikeTo 14 = .ok (.aload_n 0, 1) := by decide +kernel
theorem dX1_alikeTo_15 : decode cX1_alikeTo 15 = .ok (.iload_n 1, 1) := by decide +kernel
theorem dX1_alikeTo_16 : decode cX1_alikeTo 16 = .ok (.iload 4, 2) := by decide +kernel
theorem dX1_alikeTo_18 : decode cX1_alikeTo 18 = .ok (.invokevirtual 61, 3) := by decide +kernel
theorem dX1_alikeTo_21 : decode cX1_alikeTo 21 = .ok (.iload_n 2, 1) := by decide +kernel
theorem dX1_alikeTo_22 : decode cX1_alikeTo 22 = .ok (.if_icmp .lt 10, 3) := by decide +kernel
theorem dX1_alikeTo_25 : decode cX1_alikeTo 25 = .ok (.iload_n 3, 1) := by decide +kernel
theorem dX1_alikeTo_26 : decode cX1_alikeTo 26 = .ok (.iconst 1, 1) := by decide +kernel
theorem dX1_alikeTo_27 : decode cX1_alikeTo 27 = .ok (.iload 4, 2) := by decide +kernel
theorem dX1_alikeTo_29 : decode cX1_alikeTo 29 = .ok (.ishl, 1) := by decide +kernel
theorem dX1_alikeTo_30 : decode cX1_alikeTo 30 = .ok (.ior, 1) := by decide +kernel
theorem dX1_alikeTo_31 : decode cX1_alikeTo 31 = .ok (.istore_n 3, 1) := by decide +kernel
theorem dX1_alikeTo_32 : decode cX1_alikeTo 32 = .ok (.iinc 4 1, 3) := by decide +kernel
theorem dX1_alikeTo_35 : decode cX1_alikeTo 35 = .ok (.goto (-30), 3) := by decide +kernel
theorem dX1_alikeTo_38 : decode cX1_alikeTo 38 = .ok (.iload_n 3, 1) := by decide +kernel
theorem dX1_alikeTo_39 : decode cX1_alikeTo 39 = .ok (.ireturn, 1) := by decide +kernel
theorem dX1_voicesInOne_0 : decode cX1_voicesInOne 0 = .ok (.lconst 0, 1) := by decide +kernel
theorem dX1_voicesInOne_1 : decode cX1_voicesInOne 1 = .ok (.lstore_n 2, 1) := by decide +kernel
theorem dX1_voicesInOne_2 : decode cX1_voicesInOne 2 = .ok (.iconst 0, 1) := by decide +kernel
theorem dX1_voicesInOne_3 : decode cX1_voicesInOne 3 = .ok (.istore 4, 2) := by decide +kernel
theorem dX1_voicesInOne_5 : decode cX1_voicesInOne 5 = .ok (.iload 4, 2) := by decide +kernel
theorem dX1_voicesInOne_7 : decode cX1_voicesInOne 7 = .ok (.aload_n 0, 1) := by decide +kernel
theorem dX1_voicesInOne_8 : decode cX1_voicesInOne 8 = .ok (.getfield 31, 3) := by decide +kernel
theorem dX1_voicesInOne_11 : decode cX1_voicesInOne 11 = .ok (.if_icmp .ge 30, 3) := by decide +kernel
theorem dX1_voicesInOne_14 : decode cX1_voicesInOne 14 = .ok (.lload_n 2, 1) := by decide +kernel
theorem dX1_voicesInOne_15 : decode cX1_voicesInOne 15 = .ok (.ldc2_w 64, 3) := by decide +kernel
theorem dX1_voicesInOne_18 : decode cX1_voicesInOne 18 = .ok (.lmul, 1) := by decide +kernel
theorem dX1_voicesInOne_19 : decode cX1_voicesInOne 19 = .ok (.aload_n 0, 1) := by decide +kernel
theorem dX1_voicesInOne_20 : decode cX1_voicesInOne 20 = .ok (.getfield 21, 3) := by decide +kernel
theorem dX1_voicesInOne_23 : decode cX1_voicesInOne 23 = .ok (.iload_n 1, 1) := by decide +kernel
theorem dX1_voicesInOne_24 : decode cX1_voicesInOne 24 = .ok (.aaload, 1) := by decide +kernel
theorem dX1_voicesInOne_25 : decode cX1_voicesInOne 25 = .ok (.iload 4, 2) := by decide +kernel
theorem dX1_voicesInOne_27 : decode cX1_voicesInOne 27 = .ok (.iaload, 1) := by decide +kernel
theorem dX1_voicesInOne_28 : decode cX1_voicesInOne 28 = .ok (.i2l, 1) := by decide +kernel
theorem dX1_voicesInOne_29 : decode cX1_voicesInOne 29 = .ok (.ladd, 1) := by decide +kernel
theorem dX1_voicesInOne_30 : decode cX1_voicesInOne 30 = .ok (.ldc2_w 66, 3) := by decide +kernel
theorem dX1_voicesInOne_33 : decode cX1_voicesInOne 33 = .ok (.ladd, 1) := by decide +kernel
theorem dX1_voicesInOne_34 : decode cX1_voicesInOne 34 = .ok (.lstore_n 2, 1) := by decide +kernel
theorem dX1_voicesInOne_35 : decode cX1_voicesInOne 35 = .ok (.iinc 4 1, 3) := by decide +kernel
theorem dX1_voicesInOne_38 : decode cX1_voicesInOne 38 = .ok (.goto (-33), 3) := by decide +kernel
theorem dX1_voicesInOne_41 : decode cX1_voicesInOne 41 = .ok (.lload_n 2, 1) := by decide +kernel
theorem dX1_voicesInOne_42 : decode cX1_voicesInOne 42 = .ok (.lreturn, 1) := by decide +kernel
theorem dX1_digestPerson_0 : decode cX1_digestPerson 0 = .ok (.ldc2_w 68, 3) := by decide +kernel
theorem dX1_digestPerson_3 : decode cX1_digestPerson 3 = .ok (.lload_n 1, 1) := by decide +kernel
theorem dX1_digestPerson_4 : decode cX1_digestPerson 4 = .ok (.lmul, 1) := by decide +kernel
theorem dX1_digestPerson_5 : decode cX1_digestPerson 5 = .ok (.aload_n 0, 1) := by decide +kernel
theorem dX1_digestPerson_6 : decode cX1_digestPerson 6 = .ok (.getfield 9, 3) := by decide +kernel
theorem dX1_digestPerson_9 : decode cX1_digestPerson 9 = .ok (.iload_n 3, 1) := by decide +kernel
theorem dX1_digestPerson_10 : decode cX1_digestPerson 10 = .ok (.iaload, 1) := by decide +kernel
theorem dX1_digestPerson_11 : decode cX1_digestPerson 11 = .ok (.i2l, 1) := by decide +kernel
theorem dX1_digestPerson_12 : decode cX1_digestPerson 12 = .ok (.ladd, 1) := by decide +kernel
theorem dX1_digestPerson_13 : decode cX1_digestPerson 13 = .ok (.lstore 4, 2) := by decide +kernel
theorem dX1_digestPerson_15 : decode cX1_digestPerson 15 = .ok (.ldc2_w 68, 3) := by decide +kernel
theorem dX1_digestPerson_18 : decode cX1_digestPerson 18 = .ok (.lload 4, 2) := by decide +kernel
theorem dX1_digestPerson_20 : decode cX1_digestPerson 20 = .ok (.lmul, 1) := by decide +kernel
theorem dX1_digestPerson_21 : decode cX1_digestPerson 21 = .ok (.aload_n 0, 1) := by decide +kernel
theorem dX1_digestPerson_22 : decode cX1_digestPerson 22 = .ok (.getfield 15, 3) := by decide +kernel
theorem dX1_digestPerson_25 : decode cX1_digestPerson 25 = .ok (.iload_n 3, 1) := by decide +kernel
theorem dX1_digestPerson_26 : decode cX1_digestPerson 26 = .ok (.baload, 1) := by decide +kernel
theorem dX1_digestPerson_27 : decode cX1_digestPerson 27 = .ok (.ifCond .eq 7, 3) := by decide +kernel
theorem dX1_digestPerson_30 : decode cX1_digestPerson 30 = .ok (.iconst 1, 1) := by decide +kernel
theorem dX1_digestPerson_31 : decode cX1_digestPerson 31 = .ok (.goto 4, 3) := by decide +kernel
theorem dX1_digestPerson_34 : decode cX1_digestPerson 34 = .ok (.iconst 0, 1) := by decide +kernel
theorem dX1_digestPerson_35 : decode cX1_digestPerson 35 = .ok (.i2l, 1) := by decide +kernel
theorem dX1_digestPerson_36 : decode cX1_digestPerson 36 = .ok (.ladd, 1) := by decide +kernel
theorem dX1_digestPerson_37 : decode cX1_digestPerson 37 = .ok (.lstore 4, 2) := by decide +kernel
theorem dX1_digestPerson_39 : decode cX1_digestPerson 39 = .ok (.iconst 0, 1) := by decide +kernel
theorem dX1_digestPerson_40 : decode cX1_digestPerson 40 = .ok (.istore 6, 2) := by decide +kernel
theorem dX1_digestPerson_42 : decode cX1_digestPerson 42 = .ok (.iload 6, 2) := by decide +kernel
theorem dX1_digestPerson_44 : decode cX1_digestPerson 44 = .ok (.aload_n 0, 1) := by decide +kernel
theorem dX1_digestPerson_45 : decode cX1_digestPerson 45 = .ok (.getfield 31, 3) := by decide +kernel
theorem dX1_digestPerson_48 : decode cX1_digestPerson 48 = .ok (.if_icmp .ge 28, 3) := by decide +kernel
theorem dX1_digestPerson_51 : decode cX1_digestPerson 51 = .ok (.ldc2_w 68, 3) := by decide +kernel
theorem dX1_digestPerson_54 : decode cX1_digestPerson 54 = .ok (.lload 4, 2) := by decide +kernel
theorem dX1_digestPerson_56 : decode cX1_digestPerson 56 = .ok (.lmul, 1) := by decide +kernel
theorem dX1_digestPerson_57 : decode cX1_digestPerson 57 = .ok (.aload_n 0, 1) := by decide +kernel
theorem dX1_digestPerson_58 : decode cX1_digestPerson 58 = .ok (.getfield 21, 3) := by decide +kernel
theorem dX1_digestPerson_61 : decode cX1_digestPerson 61 = .ok (.iload_n 3, 1) := by decide +kernel
theorem dX1_digestPerson_62 : decode cX1_digestPerson 62 = .ok (.aaload, 1) := by decide +kernel
theorem dX1_digestPerson_63 : decode cX1_digestPerson 63 = .ok (.iload 6, 2) := by decide +kernel
theorem dX1_digestPerson_65 : decode cX1_digestPerson 65 = .ok (.iaload, 1) := by decide +kernel
theorem dX1_digestPerson_66 : decode cX1_digestPerson 66 = .ok (.i2l, 1) := by decide +kernel
theorem dX1_digestPerson_67 : decode cX1_digestPerson 67 = .ok (.ladd, 1) := by decide +kernel
theorem dX1_digestPerson_68 : decode cX1_digestPerson 68 = .ok (.lstore 4, 2) := by decide +kernel
theorem dX1_digestPerson_70 : decode cX1_digestPerson 70 = .ok (.iinc 6 1, 3) := by decide +kernel
theorem dX1_digestPerson_73 : decode cX1_digestPerson 73 = .ok (.goto (-31), 3) := by decide +kernel
theorem dX1_digestPerson_76 : decode cX1_digestPerson 76 = .ok (.iconst 0, 1) := by decide +kernel
theorem dX1_digestPerson_77 : decode cX1_digestPerson 77 = .ok (.istore 6, 2) := by decide +kernel
theorem dX1_digestPerson_79 : decode cX1_digestPerson 79 = .ok (.iload 6, 2) := by decide +kernel
theorem dX1_digestPerson_81 : decode cX1_digestPerson 81 = .ok (.aload_n 0, 1) := by decide +kernel
theorem dX1_digestPerson_82 : decode cX1_digestPerson 82 = .ok (.getfield 31, 3) := by decide +kernel
theorem dX1_digestPerson_85 : decode cX1_digestPerson 85 = .ok (.if_icmp .ge 28, 3) := by decide +kernel
theorem dX1_digestPerson_88 : decode cX1_digestPerson 88 = .ok (.ldc2_w 68, 3) := by decide +kernel
theorem dX1_digestPerson_91 : decode cX1_digestPerson 91 = .ok (.lload 4, 2) := by decide +kernel
theorem dX1_digestPerson_93 : decode cX1_digestPerson 93 = .ok (.lmul, 1) := by decide +kernel
theorem dX1_digestPerson_94 : decode cX1_digestPerson 94 = .ok (.aload_n 0, 1) := by decide +kernel
theorem dX1_digestPerson_95 : decode cX1_digestPerson 95 = .ok (.getfield 24, 3) := by decide +kernel
theorem dX1_digestPerson_98 : decode cX1_digestPerson 98 = .ok (.iload_n 3, 1) := by decide +kernel
theorem dX1_digestPerson_99 : decode cX1_digestPerson 99 = .ok (.aaload, 1) := by decide +kernel
theorem dX1_digestPerson_100 : decode cX1_digestPerson 100 = .ok (.iload 6, 2) := by decide +kernel
theorem dX1_digestPerson_102 : decode cX1_digestPerson 102 = .ok (.iaload, 1) := by decide +kernel
theorem dX1_digestPerson_103 : decode cX1_digestPerson 103 = .ok (.i2l, 1) := by decide +kernel
theorem dX1_digestPerson_104 : decode cX1_digestPerson 104 = .ok (.ladd, 1) := by decide +kernel
theorem dX1_digestPerson_105 : decode cX1_digestPerson 105 = .ok (.lstore 4, 2) := by decide +kernel
theorem dX1_digestPerson_107 : decode cX1_digestPerson 107 = .ok (.iinc 6 1, 3) := by decide +kernel
theorem dX1_digestPerson_110 : decode cX1_digestPerson 110 = .ok (.goto (-31), 3) := by decide +kernel
theorem dX1_digestPerson_113 : decode cX1_digestPerson 113 = .ok (.lload 4, 2) := by decide +kernel
theorem dX1_digestPerson_115 : decode cX1_digestPerson 115 = .ok (.lreturn, 1) := by decide +kernel
theorem dX2_init_0 : decode cX2_init 0 = .ok (.aload_n 0, 1) := by decide +kernel
theorem dX2_init_1 : decode cX2_init 1 = .ok (.invokespecial 3, 3) := by decide +kernel
theorem dX2_init_4 : decode cX2_init 4 = .ok (.aload_n 0, 1) := by decide +kernel
theorem dX2_init_5 : decode cX2_init 5 = .ok (.bipush 31, 2) := by decide +kernel
theorem dX2_init_7 : decode cX2_init 7 = .ok (.bipush 12, 2) := by decide +kernel
theorem dX2_init_9 : decode cX2_init 9 = .ok (.multianewarray 9 2, 4) := by decide +kernel
theorem dX2_init_13 : decode cX2_init 13 = .ok (.putfield 11, 3) := by decide +kernel
theorem dX2_init_16 : decode cX2_init 16 = .ok (.aload_n 0, 1) := by decide +kernel
theorem dX2_init_17 : decode cX2_init 17 = .ok (.iconst 0, 1) := by decide +kernel
theorem dX2_init_18 : decode cX2_init 18 = .ok (.putfield 16, 3) := by decide +kernel
theorem dX2_init_21 : decode cX2_init 21 = .ok (.aload_n 0, 1) := by decide +kernel
theorem dX2_init_22 : decode cX2_init 22 = .ok (.aload_n 1, 1) := by decide +kernel
theorem dX2_init_23 : decode cX2_init 23 = .ok (.putfield 20, 3) := by decide +kernel
theorem dX2_init_26 : decode cX2_init 26 = .ok (.aload_n 0, 1) := by decide +kernel
theorem dX2_init_27 : decode cX2_init 27 = .ok (.aload_n 2, 1) := by decide +kernel
theorem dX2_init_28 : decode cX2_init 28 = .ok (.putfield 24, 3) := by decide +kernel
theorem dX2_init_31 : decode cX2_init 31 = .ok (.return_, 1) := by decide +kernel
theorem dX2_playAtMost_0 : decode cX2_playAtMost 0 = .ok (.aload_n 0, 1) := by decide +kernel
theorem dX2_playAtMost_1 : decode cX2_playAtMost 1 = .ok (.iconst 0, 1) := by decide +kernel
theorem dX2_playAtMost_2 : decode cX2_playAtMost 2 = .ok (.putfield 16, 3) := by decide +kernel
theorem dX2_playAtMost_5 : decode cX2_playAtMost 5 = .ok (.aload_n 0, 1) := by decide +kernel
theorem dX2_playAtMost_6 : decode cX2_playAtMost 6 = .ok (.iconst 0, 1) := by decide +kernel
theorem dX2_playAtMost_7 : decode cX2_playAtMost 7 = .ok (.putfield 28, 3) := by decide +kernel
theorem dX2_playAtMost_10 : decode cX2_playAtMost 10 = .ok (.aload_n 0, 1) := by decide +kernel
theorem dX2_playAtMost_11 : decode cX2_playAtMost 11 = .ok (.iconst 0, 1) := by decide +kernel
theorem dX2_playAtMost_12 : decode cX2_playAtMost 12 = .ok (.invokevirtual 31, 3) := by decide +kernel
theorem dX2_playAtMost_15 : decode cX2_playAtMost 15 = .ok (.iconst 0, 1) := by decide +kernel
theorem dX2_playAtMost_16 : decode cX2_playAtMost 16 = .ok (.istore_n 2, 1) := by decide +kernel
theorem dX2_playAtMost_17 : decode cX2_playAtMost 17 = .ok (.iload_n 2, 1) := by decide +kernel
theorem dX2_playAtMost_18 : decode cX2_playAtMost 18 = .ok (.iload_n 1, 1) := by decide +kernel
theorem dX2_playAtMost_19 : decode cX2_playAtMost 19 = .ok (.if_icmp .ge 58, 3) := by decide +kernel
theorem dX2_playAtMost_22 : decode cX2_playAtMost 22 = .ok (.iload_n 2, 1) := by decide +kernel
theorem dX2_playAtMost_23 : decode cX2_playAtMost 23 = .ok (.bipush 30, 2) := by decide +kernel
theorem dX2_playAtMost_25 : decode cX2_playAtMost 25 = .ok (.if_icmp .ge 52, 3) := by decide +kernel
theorem dX2_playAtMost_28 : decode cX2_playAtMost 28 = .ok (.aload_n 0, 1) := by decide +kernel
theorem dX2_playAtMost_29 : decode cX2_playAtMost 29 = .ok (.getfield 16, 3) := by decide +kernel
theorem dX2_playAtMost_32 : decode cX2_playAtMost 32 = .ok (.ifCond .ne 45, 3) := by decide +kernel
theorem dX2_playAtMost_35 : decode cX2_playAtMost 35 = .ok (.aload_n 0, 1) := by decide +kernel
theorem dX2_playAtMost_36 : decode cX2_playAtMost 36 = .ok (.invokevirtual 35, 3) := by decide +kernel
theorem dX2_playAtMost_39 : decode cX2_playAtMost 39 = .ok (.istore_n 3, 1) := by decide +kernel
theorem dX2_playAtMost_40 : decode cX2_playAtMost 40 = .ok (.iinc 2 1, 3) := by decide +kernel
theorem dX2_playAtMost_43 : decode cX2_playAtMost 43 = .ok (.aload_n 0, 1) := by decide +kernel
theorem dX2_playAtMost_44 : decode cX2_playAtMost 44 = .ok (.dup, 1) := by decide +kernel
theorem dX2_playAtMost_45 : decode cX2_playAtMost 45 = .ok (.getfield 39, 3) := by decide +kernel
theorem dX2_playAtMost_48 : decode cX2_playAtMost 48 = .ok (.iconst 1, 1) := by decide +kernel
theorem dX2_playAtMost_49 : decode cX2_playAtMost 49 = .ok (.iadd, 1) := by decide +kernel
theorem dX2_playAtMost_50 : decode cX2_playAtMost 50 = .ok (.putfield 39, 3) := by decide +kernel
theorem dX2_playAtMost_53 : decode cX2_playAtMost 53 = .ok (.aload_n 0, 1) := by decide +kernel
theorem dX2_playAtMost_54 : decode cX2_playAtMost 54 = .ok (.dup, 1) := by decide +kernel
theorem dX2_playAtMost_55 : decode cX2_playAtMost 55 = .ok (.getfield 42, 3) := by decide +kernel
theorem dX2_playAtMost_58 : decode cX2_playAtMost 58 = .ok (.iload_n 3, 1) := by decide +kernel
theorem dX2_playAtMost_59 : decode cX2_playAtMost 59 = .ok (.iadd, 1) := by decide +kernel
theorem dX2_playAtMost_60 : decode cX2_playAtMost 60 = .ok (.putfield 42, 3) := by decide +kernel
theorem dX2_playAtMost_63 : decode cX2_playAtMost 63 = .ok (.aload_n 0, 1) := by decide +kernel
theorem dX2_playAtMost_64 : decode cX2_playAtMost 64 = .ok (.iload_n 2, 1) := by decide +kernel
theorem dX2_playAtMost_65 : decode cX2_playAtMost 65 = .ok (.invokevirtual 31, 3) := by decide +kernel
theorem dX2_playAtMost_68 : decode cX2_playAtMost 68 = .ok (.aload_n 0, 1) := by decide +kernel
theorem dX2_playAtMost_69 : decode cX2_playAtMost 69 = .ok (.iload_n 2, 1) := by decide +kernel
theorem dX2_playAtMost_70 : decode cX2_playAtMost 70 = .ok (.iload_n 3, 1) := by decide +kernel
theorem dX2_playAtMost_71 : decode cX2_playAtMost 71 = .ok (.invokevirtual 45, 3) := by decide +kernel
theorem dX2_playAtMost_74 : decode cX2_playAtMost 74 = .ok (.goto (-57), 3) := by decide +kernel
theorem dX2_playAtMost_77 : decode cX2_playAtMost 77 = .ok (.iload_n 2, 1) := by decide +kernel
theorem dX2_playAtMost_78 : decode cX2_playAtMost 78 = .ok (.ireturn, 1) := by decide +kernel
theorem dX2_doRound_0 : decode cX2_doRound 0 = .ok (.iconst 0, 1) := by decide +kernel
theorem dX2_doRound_1 : decode cX2_doRound 1 = .ok (.istore_n 1, 1) := by decide +kernel
theorem dX2_doRound_2 : decode cX2_doRound 2 = .ok (.iconst 0, 1) := by decide +kernel
theorem dX2_doRound_3 : decode cX2_doRound 3 = .ok (.istore_n 2, 1) := by decide +kernel
theorem dX2_doRound_4 : decode cX2_doRound 4 = .ok (.iload_n 2, 1) := by decide +kernel
theorem dX2_doRound_5 : decode cX2_doRound 5 = .ok (.aload_n 0, 1) := by decide +kernel
theorem dX2_doRound_6 : decode cX2_doRound 6 = .ok (.getfield 20, 3) := by decide +kernel
theorem dX2_doRound_9 : decode cX2_doRound 9 = .ok (.getfield 49, 3) := by decide +kernel
theorem dX2_doRound_12 : decode cX2_doRound 12 = .ok (.if_icmp .ge 58, 3) := by decide +kernel
theorem dX2_doRound_15 : decode cX2_doRound 15 = .ok (.aload_n 0, 1) := by decide +kernel
theorem dX2_doRound_16 : decode cX2_doRound 16 = .ok (.getfield 20, 3) := by decide +kernel
theorem dX2_doRound_19 : decode cX2_doRound 19 = .ok (.getfield 54, 3) := by decide +kernel
theorem dX2_doRound_22 : decode cX2_doRound 22 = .ok (.iload_n 2, 1) := by decide +kernel
theorem dX2_doRound_23 : decode cX2_doRound 23 = .ok (.baload, 1) := by decide +kernel
theorem dX2_doRound_24 : decode cX2_doRound 24 = .ok (.ifCond .eq 40, 3) := by decide +kernel
theorem dX2_doRound_27 : decode cX2_doRound 27 = .ok (.aload_n 0, 1) := by decide +kernel
theorem dX2_doRound_28 : decode cX2_doRound 28 = .ok (.getfield 24, 3) := by decide +kernel
theorem dX2_doRound_31 : decode cX2_doRound 31 = .ok (.iload_n 2, 1) := by decide +kernel
theorem dX2_doRound_32 : decode cX2_doRound 32 = .ok (.invokevirtual 58, 3) := by decide +kernel
theorem dX2_doRound_35 : decode cX2_doRound 35 = .ok (.aload_n 0, 1) := by decide +kernel
theorem dX2_doRound_36 : decode cX2_doRound 36 = .ok (.getfield 24, 3) := by decide +kernel
theorem dX2_doRound_39 : decode cX2_doRound 39 = .ok (.getfield 63, 3) := by decide +kernel
theorem dX2_doRound_42 : decode cX2_doRound 42 = .ok (.aload_n 0, 1) := by decide +kernel
theorem dX2_doRound_43 : decode cX2_doRound 43 = .ok (.getfield 20, 3) := by decide +kernel
theorem dX2_doRound_46 : decode cX2_doRound 46 = .ok (.iload_n 2, 1) := by decide +kernel
theorem dX2_doRound_47 : decode cX2_doRound 47 = .ok (.invokevirtual 66, 3) := by decide +kernel
theorem dX2_doRound_50 : decode cX2_doRound 50 = .ok (.if_icmp .le 14, 3) := by decide +kernel
theorem dX2_doRound_53 : decode cX2_doRound 53 = .ok (.aload_n 0, 1) := by decide +kernel
theorem dX2_doRound_54 : decode cX2_doRound 54 = .ok (.getfield 24, 3) := by decide +kernel
theorem dX2_doRound_57 : decode cX2_doRound 57 = .ok (.iload_n 2, 1) := by decide +kernel
theorem dX2_doRound_58 : decode cX2_doRound 58 = .ok (.invokevirtual 70, 3) := by decide +kernel
theorem dX2_doRound_61 : decode cX2_doRound 61 = .ok (.iinc 1 1, 3) := by decide +kernel
theorem dX2_doRound_64 : decode cX2_doRound 64 = .ok (.iinc 2 1, 3) := by decide +kernel
theorem dX2_doRound_67 : decode cX2_doRound 67 = .ok (.goto (-63), 3) := by decide +kernel
theorem dX2_doRound_70 : decode cX2_doRound 70 = .ok (.iload_n 1, 1) := by decide +kernel
theorem dX2_doRound_71 : decode cX2_doRound 71 = .ok (.ireturn, 1) := by decide +kernel
theorem dX2_noteVoices_0 : decode cX2_noteVoices 0 = .ok (.iconst 0, 1) := by decide +kernel
theorem dX2_noteVoices_1 : decode cX2_noteVoices 1 = .ok (.istore_n 2, 1) := by decide +kernel
theorem dX2_noteVoices_2 : decode cX2_noteVoices 2 = .ok (.iload_n 2, 1) := by decide +kernel
theorem dX2_noteVoices_3 : decode cX2_noteVoices 3 = .ok (.aload_n 0, 1) := by decide +kernel
theorem dX2_noteVoices_4 : decode cX2_noteVoices 4 = .ok (.getfield 20, 3) := by decide +kernel
theorem dX2_noteVoices_7 : decode cX2_noteVoices 7 = .ok (.getfield 49, 3) := by decide +kernel
theorem dX2_noteVoices_10 : decode cX2_noteVoices 10 = .ok (.if_icmp .ge 25, 3) := by decide +kernel
theorem dX2_noteVoices_13 : decode cX2_noteVoices 13 = .ok (.aload_n 0, 1) := by decide +kernel
theorem dX2_noteVoices_14 : decode cX2_noteVoices 14 = .ok (.getfield 11, 3) := by decide +kernel
theorem dX2_noteVoices_17 : decode cX2_noteVoices 17 = .ok (.iload_n 1, 1) := by decide +kernel
theorem dX2_noteVoices_18 : decode cX2_noteVoices 18 = .ok (.aaload, 1) := by decide +kernel
theorem dX2_noteVoices_19 : decode cX2_noteVoices 19 = .ok (.iload_n 2, 1) := by decide +kernel
theorem dX2_noteVoices_20 : decode cX2_noteVoices 20 = .ok (.aload_n 0, 1) := by decide +kernel
theorem dX2_noteVoices_21 : decode cX2_noteVoices 21 = .ok (.getfield 20, 3) := by decide +kernel
theorem dX2_noteVoices_24 : decode cX2_noteVoices 24 = .ok (.iload_n 2, 1) := by decide +kernel
theorem dX2_noteVoices_25 : decode cX2_noteVoices 25 = .ok (.invokevirtual 73, 3) := by decide +kernel
theorem dX2_noteVoices_28 : decode cX2_noteVoices 28 = .ok (.lastore, 1) := by decide +kernel
theorem dX2_noteVoices_29 : decode cX2_noteVoices 29 = .ok (.iinc 2 1, 3) := by decide +kernel
theorem dX2_noteVoices_32 : decode cX2_noteVoices 32 = .ok (.goto (-30), 3) := by decide +kernel
theorem dX2_noteVoices_35 : decode cX2_noteVoices 35 = .ok (.return_, 1) := by decide +kernel
theorem dX2_judge_0 : decode cX2_judge 0 = .ok (.iload_n 2, 1) := by decide +kernel
theorem dX2_judge_1 : decode cX2_judge 1 = .ok (.ifCond .ne 9, 3) := by decide +kernel
theorem dX2_judge_4 : decode cX2_judge 4 = .ok (.aload_n 0, 1) := by decide +kernel
theorem dX2_judge_5 : decode cX2_judge 5 = .ok (.iconst 1, 1) := by decide +kernel
theorem dX2_judge_6 : decode cX2_judge 6 = .ok (.putfield 16, 3) := by decide +kernel
theorem dX2_judge_9 : decode cX2_judge 9 = .ok (.return_, 1) := by decide +kernel
theorem dX2_judge_10 : decode cX2_judge 10 = .ok (.iconst 0, 1) := by decide +kernel
theorem dX2_judge_11 : decode cX2_judge 11 = .ok (.istore_n 3, 1) := by decide +kernel
theorem dX2_judge_12 : decode cX2_judge 12 = .ok (.iload_n 3, 1) := by decide +kernel
theorem dX2_judge_13 : decode cX2_judge 13 = .ok (.iload_n 1, 1) := by decide +kernel
theorem dX2_judge_14 : decode cX2_judge 14 = .ok (.if_icmp .ge 30, 3) := by decide +kernel
theorem dX2_judge_17 : decode cX2_judge 17 = .ok (.aload_n 0, 1) := by decide +kernel
theorem dX2_judge_18 : decode cX2_judge 18 = .ok (.iload_n 3, 1) := by decide +kernel
theorem dX2_judge_19 : decode cX2_judge 19 = .ok (.iload_n 1, 1) := by decide +kernel
theorem dX2_judge_20 : decode cX2_judge 20 = .ok (.invokevirtual 77, 3) := by decide +kernel
theorem dX2_judge_23 : decode cX2_judge 23 = .ok (.ifCond .eq 15, 3) := by decide +kernel
theorem dX2_judge_26 : decode cX2_judge 26 = .ok (.aload_n 0, 1) := by decide +kernel
theorem dX2_judge_27 : decode cX2_judge 27 = .ok (.iconst 2, 1) := by decide +kernel
theorem dX2_judge_28 : decode cX2_judge 28 = .ok (.putfield 16, 3) := by decide +kernel
theorem dX2_judge_31 : decode cX2_judge 31 = .ok (.aload_n 0, 1) := by decide +kernel
theorem dX2_judge_32 : decode cX2_judge 32 = .ok (.iload_n 1, 1) := by decide +kernel
theorem dX2_judge_33 : decode cX2_judge 33 = .ok (.iload_n 3, 1) := by decide +kernel
theorem dX2_judge_34 : decode cX2_judge 34 = .ok (.isub, 1) := by decide +kernel
theorem dX2_judge_35 : decode cX2_judge 35 = .ok (.putfield 28, 3) := by decide +kernel
theorem dX2_judge_38 : decode cX2_judge 38 = .ok (.iinc 3 1, 3) := by decide +kernel
theorem dX2_judge_41 : decode cX2_judge 41 = .ok (.goto (-29), 3) := by decide +kernel
theorem dX2_judge_44 : decode cX2_judge 44 = .ok (.return_, 1) := by decide +kernel
theorem dX2_isSameTrail_0 : decode cX2_isSameTrail 0 = .ok (.iconst 0, 1) := by decide +kernel
theorem dX2_isSameTrail_1 : decode cX2_isSameTrail 1 = .ok (.istore_n 3, 1) := by decide +kernel
theorem dX2_isSameTrail_2 : decode cX2_isSameTrail 2 = .ok (.iload_n 3, 1) := by decide +kernel
theorem dX2_isSameTrail_3 : decode cX2_isSameTrail 3 = .ok (.aload_n 0, 1) := by decide +kernel
theorem dX2_isSameTrail_4 : decode cX2_isSameTrail 4 = .ok (.getfield 20, 3) := by decide +kernel
theorem dX2_isSameTrail_7 : decode cX2_isSameTrail 7 = .ok (.getfield 49, 3) := by decide +kernel
theorem dX2_isSameTrail_10 : decode cX2_isSameTrail 10 = .ok (.if_icmp .ge 31, 3) := by decide +kernel
theorem dX2_isSameTrail_13 : decode cX2_isSameTrail 13 = .ok (.aload_n 0, 1) := by decide +kernel
theorem dX2_isSameTrail_14 : decode cX2_isSameTrail 14 = .ok (.getfield 11, 3) := by decide +kernel
theorem dX2_isSameTrail_17 : decode cX2_isSameTrail 17 = .ok (.iload_n 1, 1) := by decide +kernel
theorem dX2_isSameTrail_18 : decode cX2_isSameTrail 18 = .ok (.aaload, 1) := by decide +kernel
theorem dX2_isSameTrail_19 : decode cX2_isSameTrail 19 = .ok (.iload_n 3, 1) := by decide +kernel
theorem dX2_isSameTrail_20 : decode cX2_isSameTrail 20 = .ok (.laload, 1) := by decide +kernel
theorem dX2_isSameTrail_21 : decode cX2_isSameTrail 21 = .ok (.aload_n 0, 1) := by decide +kernel
theorem dX2_isSameTrail_22 : decode cX2_isSameTrail 22 = .ok (.getfield 11, 3) := by decide +kernel
theorem dX2_isSameTrail_25 : decode cX2_isSameTrail 25 = .ok (.iload_n 2, 1) := by decide +kernel
theorem dX2_isSameTrail_26 : decode cX2_isSameTrail 26 = .ok (.aaload, 1) := by decide +kernel
theorem dX2_isSameTrail_27 : decode cX2_isSameTrail 27 = .ok (.iload_n 3, 1) := by decide +kernel
theorem dX2_isSameTrail_28 : decode cX2_isSameTrail 28 = .ok (.laload, 1) := by decide +kernel
theorem dX2_isSameTrail_29 : decode cX2_isSameTrail 29 = .ok (.lcmp, 1) := by decide +kernel
theorem dX2_isSameTrail_30 : decode cX2_isSameTrail 30 = .ok (.ifCond .eq 5, 3) := by decide +kernel
theorem dX2_isSameTrail_33 : decode cX2_isSameTrail 33 = .ok (.iconst 0, 1) := by decide +kernel
theorem dX2_isSameTrail_34 : decode cX2_isSameTrail 34 = .ok (.ireturn, 1) := by decide +kernel
theorem dX2_isSameTrail_35 : decode cX2_isSameTrail 35 = .ok (.iinc 3 1, 3) := by decide +kernel
theorem dX2_isSameTrail_38 : decode cX2_isSameTrail 38 = .ok (.goto (-36), 3) := by decide +kernel
theorem dX2_isSameTrail_41 : decode cX2_isSameTrail 41 = .ok (.iconst 1, 1) := by decide +kernel
theorem dX2_isSameTrail_42 : decode cX2_isSameTrail 42 = .ok (.ireturn, 1) := by decide +kernel
theorem dX3_init_0 : decode cX3_init 0 = .ok (.aload_n 0, 1) := by decide +kernel
theorem dX3_init_1 : decode cX3_init 1 = .ok (.invokespecial 3, 3) := by decide +kernel
theorem dX3_init_4 : decode cX3_init 4 = .ok (.aload_n 0, 1) := by decide +kernel
theorem dX3_init_5 : decode cX3_init 5 = .ok (.bipush 6, 2) := by decide +kernel
theorem dX3_init_7 : decode cX3_init 7 = .ok (.newarray .int, 2) := by decide +kernel
theorem dX3_init_9 : decode cX3_init 9 = .ok (.putfield 9, 3) := by decide +kernel
theorem dX3_init_12 : decode cX3_init 12 = .ok (.aload_n 0, 1) := by decide +kernel
theorem dX3_init_13 : decode cX3_init 13 = .ok (.bipush 6, 2) := by decide +kernel
theorem dX3_init_15 : decode cX3_init 15 = .ok (.iconst 3, 1) := by decide +kernel
theorem dX3_init_16 : decode cX3_init 16 = .ok (.multianewarray 15 2, 4) := by decide +kernel
theorem dX3_init_20 : decode cX3_init 20 = .ok (.putfield 17, 3) := by decide +kernel
theorem dX3_init_23 : decode cX3_init 23 = .ok (.aload_n 0, 1) := by decide +kernel
theorem dX3_init_24 : decode cX3_init 24 = .ok (.bipush 6, 2) := by decide +kernel
theorem dX3_init_26 : decode cX3_init 26 = .ok (.iconst 3, 1) := by decide +kernel
theorem dX3_init_27 : decode cX3_init 27 = .ok (.multianewarray 15 2, 4) := by decide +kernel
theorem dX3_init_31 : decode cX3_init 31 = .ok (.putfield 20, 3) := by decide +kernel
theorem dX3_init_34 : decode cX3_init 34 = .ok (.aload_n 0, 1) := by decide +kernel
theorem dX3_init_35 : decode cX3_init 35 = .ok (.bipush 7, 2) := by decide +kernel
theorem dX3_init_37 : decode cX3_init 37 = .ok (.newarray .int, 2) := by decide +kernel
theorem dX3_init_39 : decode cX3_init 39 = .ok (.putfield 23, 3) := by decide +kernel
theorem dX3_init_42 : decode cX3_init 42 = .ok (.aload_n 0, 1) := by decide +kernel
theorem dX3_init_43 : decode cX3_init 43 = .ok (.bipush 6, 2) := by decide +kernel
theorem dX3_init_45 : decode cX3_init 45 = .ok (.newarray .int, 2) := by decide +kernel
theorem dX3_init_47 : decode cX3_init 47 = .ok (.putfield 26, 3) := by decide +kernel
theorem dX3_init_50 : decode cX3_init 50 = .ok (.aload_n 0, 1) := by decide +kernel
theorem dX3_init_51 : decode cX3_init 51 = .ok (.bipush 6, 2) := by decide +kernel
theorem dX3_init_53 : decode cX3_init 53 = .ok (.newarray .int, 2) := by decide +kernel
theorem dX3_init_55 : decode cX3_init 55 = .ok (.putfield 29, 3) := by decide +kernel
theorem dX3_init_58 : decode cX3_init 58 = .ok (.aload_n 0, 1) := by decide +kernel
theorem dX3_init_59 : decode cX3_init 59 = .ok (.aload_n 1, 1) := by decide +kernel
theorem dX3_init_60 : decode cX3_init 60 = .ok (.putfield 32, 3) := by decide +kernel
theorem dX3_init_63 : decode cX3_init 63 = .ok (.return_, 1) := by decide +kernel
theorem dX3_findFor_0 : decode cX3_findFor 0 = .ok (.aload_n 0, 1) := by decide +kernel
theorem dX3_findFor_1 : decode cX3_findFor 1 = .ok (.aload_n 0, 1) := by decide +kernel
theorem dX3_findFor_2 : decode cX3_findFor 2 = .ok (.getfield 32, 3) := by decide +kernel
theorem dX3_findFor_5 : decode cX3_findFor 5 = .ok (.getfield 36, 3) := by decide +kernel
theorem dX3_findFor_8 : decode cX3_findFor 8 = .ok (.iload_n 1, 1) := by decide +kernel
theorem dX3_findFor_9 : decode cX3_findFor 9 = .ok (.iaload, 1) := by decide +kernel
theorem dX3_findFor_10 : decode cX3_findFor 10 = .ok (.putfield 41, 3) := by decide +kernel
theorem dX3_findFor_13 : decode cX3_findFor 13 = .ok (.aload_n 0, 1) := by decide +kernel
theorem dX3_findFor_14 : decode cX3_findFor 14 = .ok (.ldc 45, 2) := by decide +kernel
theorem dX3_findFor_16 : decode cX3_findFor 16 = .ok (.putfield 46, 3) := by decide +kernel
theorem dX3_findFor_19 : decode cX3_findFor 19 = .ok (.aload_n 0, 1) := by decide +kernel
theorem dX3_findFor_20 : decode cX3_findFor 20 = .ok (.iconst 0, 1) := by decide +kernel
theorem dX3_findFor_21 : decode cX3_findFor 21 = .ok (.putfield 49, 3) := by decide +kernel
theorem dX3_findFor_24 : decode cX3_findFor 24 = .ok (.aload_n 0, 1) := by decide +kernel
theorem dX3_findFor_25 : decode cX3_findFor 25 = .ok (.getfield 23, 3) := by decide +kernel
theorem dX3_findFor_28 : decode cX3_findFor 28 = .ok (.aload_n 0, 1) := by decide +kernel
theorem dX3_findFor_29 : decode cX3_findFor 29 = .ok (.getfield 32, 3) := by decide +kernel
theorem dX3_findFor_32 : decode cX3_findFor 32 = .ok (.getfield 52, 3) := by decide +kernel
theorem dX3_findFor_35 : decode cX3_findFor 35 = .ok (.iconst 0, 1) := by decide +kernel
theorem dX3_findFor_36 : decode cX3_findFor 36 = .ok (.iastore, 1) := by decide +kernel
theorem dX3_findFor_37 : decode cX3_findFor 37 = .ok (.aload_n 0, 1) := by decide +kernel
theorem dX3_findFor_38 : decode cX3_findFor 38 = .ok (.getfield 32, 3) := by decide +kernel
theorem dX3_findFor_41 : decode cX3_findFor 41 = .ok (.getfield 52, 3) := by decide +kernel
theorem dX3_findFor_44 : decode cX3_findFor 44 = .ok (.iconst 1, 1) := by decide +kernel
theorem dX3_findFor_45 : decode cX3_findFor 45 = .ok (.isub, 1) := by decide +kernel
theorem dX3_findFor_46 : decode cX3_findFor 46 = .ok (.istore_n 2, 1) := by decide +kernel
theorem dX3_findFor_47 : decode cX3_findFor 47 = .ok (.iload_n 2, 1) := by decide +kernel
theorem dX3_findFor_48 : decode cX3_findFor 48 = .ok (.ifCond .lt 57, 3) := by decide +kernel
theorem dX3_findFor_51 : decode cX3_findFor 51 = .ok (.aload_n 0, 1) := by decide +kernel
theorem dX3_findFor_52 : decode cX3_findFor 52 = .ok (.iload_n 2, 1) := by decide +kernel
theorem dX3_findFor_53 : decode cX3_findFor 53 = .ok (.aload_n 0, 1) := by decide +kernel
theorem dX3_findFor_54 : decode cX3_findFor 54 = .ok (.getfield 32, 3) := by decide +kernel
theorem dX3_findFor_57 : decode cX3_findFor 57 = .ok (.iload_n 1, 1) := by decide +kernel
theorem dX3_findFor_58 : decode cX3_findFor 58 = .ok (.iload_n 2, 1) := by decide +kernel
theorem dX3_findFor_59 : decode cX3_findFor 59 = .ok (.invokevirtual 55, 3) := by decide +kernel
theorem dX3_findFor_62 : decode cX3_findFor 62 = .ok (.aload_n 0, 1) := by decide +kernel
theorem dX3_findFor_63 : decode cX3_findFor 63 = .ok (.getfield 32, 3) := by decide +kernel
theorem dX3_findFor_66 : decode cX3_findFor 66 = .ok (.getfield 59, 3) := by decide +kernel
theorem dX3_findFor_69 : decode cX3_findFor 69 = .ok (.iload_n 1, 1) := by decide +kernel
theorem dX3_findFor_70 : decode cX3_findFor 70 = .ok (.aaload, 1) := by decide +kernel
theorem dX3_findFor_71 : decode cX3_findFor 71 = .ok (.iload_n 2, 1) := by decide +kernel
theorem dX3_findFor_72 : decode cX3_findFor 72 = .ok (.iaload, 1) := by decide +kernel
theorem dX3_findFor_73 : decode cX3_findFor 73 = .ok (.invokevirtual 62, 3) := by decide +kernel
theorem dX3_findFor_76 : decode cX3_findFor 76 = .ok (.aload_n 0, 1) := by decide +kernel
theorem dX3_findFor_77 : decode cX3_findFor 77 = .ok (.getfield 23, 3) := by decide +kernel
theorem dX3_findFor_80 : decode cX3_findFor 80 = .ok (.iload_n 2, 1) := by decide +kernel
theorem dX3_findFor_81 : decode cX3_findFor 81 = .ok (.aload_n 0, 1) := by decide +kernel
theorem dX3_findFor_82 : decode cX3_findFor 82 = .ok (.getfield 23, 3) := by decide +kernel
theorem dX3_findFor_85 : decode cX3_findFor 85 = .ok (.iload_n 2, 1) := by decide +kernel
theorem dX3_findFor_86 : decode cX3_findFor 86 = .ok (.iconst 1, 1) := by decide +kernel
theorem dX3_findFor_87 : decode cX3_findFor 87 = .ok (.iadd, 1) := by decide +kernel
theorem dX3_findFor_88 : decode cX3_findFor 88 = .ok (.iaload, 1) := by decide +kernel
theorem dX3_findFor_89 : decode cX3_findFor 89 = .ok (.aload_n 0, 1) := by decide +kernel
theorem dX3_findFor_90 : decode cX3_findFor 90 = .ok (.getfield 20, 3) := by decide +kernel
theorem dX3_findFor_93 : decode cX3_findFor 93 = .ok (.iload_n 2, 1) := by decide +kernel
theorem dX3_findFor_94 : decode cX3_findFor 94 = .ok (.aaload, 1) := by decide +kernel
theorem dX3_findFor_95 : decode cX3_findFor 95 = .ok (.iconst 0, 1) := by decide +kernel
theorem dX3_findFor_96 : decode cX3_findFor 96 = .ok (.iaload, 1) := by decide +kernel
theorem dX3_findFor_97 : decode cX3_findFor 97 = .ok (.iadd, 1) := by decide +kernel
theorem dX3_findFor_98 : decode cX3_findFor 98 = .ok (.iastore, 1) := by decide +kernel
theorem dX3_findFor_99 : decode cX3_findFor 99 = .ok (.iinc 2 (-1), 3) := by decide +kernel
theorem dX3_findFor_102 : decode cX3_findFor 102 = .ok (.goto (-55), 3) := by decide +kernel
theorem dX3_findFor_105 : decode cX3_findFor 105 = .ok (.aload_n 0, 1) := by decide +kernel
theorem dX3_findFor_106 : decode cX3_findFor 106 = .ok (.iconst 0, 1) := by decide +kernel
theorem dX3_findFor_107 : decode cX3_findFor 107 = .ok (.iconst 0, 1) := by decide +kernel
theorem dX3_findFor_108 : decode cX3_findFor 108 = .ok (.iconst 0, 1) := by decide +kernel
theorem dX3_findFor_109 : decode cX3_findFor 109 = .ok (.invokestatic 66, 3) := by decide +kernel
theorem dX3_findFor_112 : decode cX3_findFor 112 = .ok (.return_, 1) := by decide +kernel
theorem dX3_giveTo_0 : decode cX3_giveTo 0 = .ok (.aload_n 0, 1) := by decide +kernel
theorem dX3_giveTo_1 : decode cX3_giveTo 1 = .ok (.getfield 29, 3) := by decide +kernel
theorem dX3_giveTo_4 : decode cX3_giveTo 4 = .ok (.iconst 0, 1) := by decide +kernel
theorem dX3_giveTo_5 : decode cX3_giveTo 5 = .ok (.aload_n 0, 1) := by decide +kernel
theorem dX3_giveTo_6 : decode cX3_giveTo 6 = .ok (.getfield 32, 3) := by decide +kernel
theorem dX3_giveTo_9 : decode cX3_giveTo 9 = .ok (.getfield 70, 3) := by decide +kernel
theorem dX3_giveTo_12 : decode cX3_giveTo 12 = .ok (.iload_n 1, 1) := by decide +kernel
theorem dX3_giveTo_13 : decode cX3_giveTo 13 = .ok (.aaload, 1) := by decide +kernel
theorem dX3_giveTo_14 : decode cX3_giveTo 14 = .ok (.iconst 0, 1) := by decide +kernel
theorem dX3_giveTo_15 : decode cX3_giveTo 15 = .ok (.aload_n 0, 1) := by decide +kernel
theorem dX3_giveTo_16 : decode cX3_giveTo 16 = .ok (.getfield 32, 3) := by decide +kernel
theorem dX3_giveTo_19 : decode cX3_giveTo 19 = .ok (.getfield 52, 3) := by decide +kernel
theorem dX3_giveTo_22 : decode cX3_giveTo 22 = .ok (.invokestatic 73, 3) := by decide +kernel
theorem dX3_giveTo_25 : decode cX3_giveTo 25 = .ok (.return_, 1) := by decide +kernel
theorem dX3_listChoices_0 : decode cX3_listChoices 0 = .ok (.aload_n 0, 1) := by decide +kernel
theorem dX3_listChoices_1 : decode cX3_listChoices 1 = .ok (.getfield 9, 3) := by decide +kernel
theorem dX3_listChoices_4 : decode cX3_listChoices 4 = .ok (.iload_n 1, 1) := by decide +kernel
theorem dX3_listChoices_5 : decode cX3_listChoices 5 = .ok (.iconst 0, 1) := by decide +kernel
theorem dX3_listChoices_6 : decode cX3_listChoices 6 = .ok (.iastore, 1) := by decide +kernel
theorem dX3_listChoices_7 : decode cX3_listChoices 7 = .ok (.iload_n 3, 1) := by decide +kernel
theorem dX3_listChoices_8 : decode cX3_listChoices 8 = .ok (.ifCond .le 7, 3) := by decide +kernel
theorem dX3_listChoices_11 : decode cX3_listChoices 11 = .ok (.iconst 1, 1) := by decide +kernel
theorem dX3_listChoices_12 : decode cX3_listChoices 12 = .ok (.goto 4, 3) := by decide +kernel
theorem dX3_listChoices_15 : decode cX3_listChoices 15 = .ok (.iconst (-1), 1) := by decide +kernel
theorem dX3_listChoices_16 : decode cX3_listChoices 16 = .ok (.istore 4, 2) := by decide +kernel
theorem dX3_listChoices_18 : decode cX3_listChoices 18 = .ok (.iload_n 2, 1) := by decide +kernel
theorem dX3_listChoices_19 : decode cX3_listChoices 19 = .ok (.iload_n 3, 1) := by decide +kernel
theorem dX3_listChoices_20 : decode cX3_listChoices 20 = .ok (.invokestatic 79, 3) := by decide +kernel
theorem dX3_listChoices_23 : decode cX3_listChoices 23 = .ok (.istore 5, 2) := by decide +kernel
theorem dX3_listChoices_25 : decode cX3_listChoices 25 = .ok (.iload 4, 2) := by decide +kernel
theorem dX3_listChoices_27 : decode cX3_listChoices 27 = .ok (.iload_n 3, 1) := by decide +kernel
theorem dX3_listChoices_28 : decode cX3_listChoices 28 = .ok (.invokestatic 79, 3) := by decide +kernel
theorem dX3_listChoices_31 : decode cX3_listChoices 31 = .ok (.iload 5, 2) := by decide +kernel
theorem dX3_listChoices_33 : decode cX3_listChoices 33 = .ok (.if_icmp .le 18, 3) := by decide +kernel
theorem dX3_listChoices_36 : decode cX3_listChoices 36 = .ok (.aload_n 0, 1) := by decide +kernel
theorem dX3_listChoices_37 : decode cX3_listChoices 37 = .ok (.iload_n 1, 1) := by decide +kernel
theorem dX3_listChoices_38 : decode cX3_listChoices 38 = .ok (.iload 4, 2) := by decide +kernel
theorem dX3_listChoices_40 : decode cX3_listChoices 40 = .ok (.iload_n 2, 1) := by decide +kernel
theorem dX3_listChoices_41 : decode cX3_listChoices 41 = .ok (.isub, 1) := by decide +kernel
theorem dX3_listChoices_42 : decode cX3_listChoices 42 = .ok (.iload 4, 2) := by decide +kernel
theorem dX3_listChoices_44 : decode cX3_listChoices 44 = .ok (.iload_n 3, 1) := by decide +kernel
theorem dX3_listChoices_45 : decode cX3_listChoices 45 = .ok (.invokestatic 79, 3) := by decide +kernel
theorem dX3_listChoices_48 : decode cX3_listChoices 48 = .ok (.invokevirtual 82, 3) := by decide +kernel
theorem dX3_listChoices_51 : decode cX3_listChoices 51 = .ok (.iconst 0, 1) := by decide +kernel
theorem dX3_listChoices_52 : decode cX3_listChoices 52 = .ok (.iload_n 3, 1) := by decide +kernel
theorem dX3_listChoices_53 : decode cX3_listChoices 53 = .ok (.invokestatic 79, 3) := by decide +kernel
theorem dX3_listChoices_56 : decode cX3_listChoices 56 = .ok (.iload 5, 2) := by decide +kernel
theorem dX3_listChoices_58 : decode cX3_listChoices 58 = .ok (.if_icmp .le 15, 3) := by decide +kernel
theorem dX3_listChoices_61 : decode cX3_listChoices 61 = .ok (.aload_n 0, 1) := by decide +kernel
theorem dX3_listChoices_62 : decode cX3_listChoices 62 = .ok (.iload_n 1, 1) := by decide +kernel
theorem dX3_listChoices_63 : decode cX3_listChoices 63 = .ok (.iload_n 2, 1) := by decide +kernel
theorem dX3_listChoices_64 : decode cX3_listChoices 64 = .ok (.ineg, 1) := by decide +kernel
theorem dX3_listChoices_65 : decode cX3_listChoices 65 = .ok (.iconst 0, 1) := by decide +kernel
theorem dX3_listChoices_66 : decode cX3_listChoices 66 = .ok (.iload_n 3, 1) := by decide +kernel
theorem dX3_listChoices_67 : decode cX3_listChoices 67 = .ok (.invokestatic 79, 3) := by decide +kernel
theorem dX3_listChoices_70 : decode cX3_listChoices 70 = .ok (.invokevirtual 82, 3) := by decide +kernel
theorem dX3_listChoices_73 : decode cX3_listChoices 73 = .ok (.aload_n 0, 1) := by decide +kernel
theorem dX3_listChoices_74 : decode cX3_listChoices 74 = .ok (.iload_n 1, 1) := by decide +kernel
theorem dX3_listChoices_75 : decode cX3_listChoices 75 = .ok (.iconst 0, 1) := by decide +kernel
theorem dX3_listChoices_76 : decode cX3_listChoices 76 = .ok (.iload 5, 2) := by decide +kernel
theorem dX3_listChoices_78 : decode cX3_listChoices 78 = .ok (.invokevirtual 82, 3) := by decide +kernel
theorem dX3_listChoices_81 : decode cX3_listChoices 81 = .ok (.return_, 1) := by decide +kernel
theorem dX3_addChoice_0 : decode cX3_addChoice 0 = .ok (.aload_n 0, 1) := by decide +kernel
theorem dX3_addChoice_1 : decode cX3_addChoice 1 = .ok (.getfield 9, 3) := by decide +kernel
theorem dX3_addChoice_4 : decode cX3_addChoice 4 = .ok (.iload_n 1, 1) := by decide +kernel
theorem dX3_addChoice_5 : decode cX3_addChoice 5 = .ok (.iaload, 1) := by decide +kernel
theorem dX3_addChoice_6 : decode cX3_addChoice 6 = .ok (.istore 4, 2) := by decide +kernel
theorem dX3_addChoice_8 : decode cX3_addChoice 8 = .ok (.iload 4, 2) := by decide +kernel
theorem dX3_addChoice_10 : decode cX3_addChoice 10 = .ok (.iconst 3, 1) := by decide +kernel
theorem dX3_addChoice_11 : decode cX3_addChoice 11 = .ok (.if_icmp .ge 15, 3) := by decide +kernel
theorem dX3_addChoice_14 : decode cX3_addChoice 14 = .ok (.iload_n 2, 1) := by decide +kernel
theorem dX3_addChoice_15 : decode cX3_addChoice 15 = .ok (.bipush (-40), 2) := by decide +kernel
theorem dX3_addChoice_17 : decode cX3_addChoice 17 = .ok (.if_icmp .lt 9, 3) := by decide +kernel
theorem dX3_addChoice_20 : decode cX3_addChoice 20 = .ok (.iload_n 2, 1) := by decide +kernel
theorem dX3_addChoice_21 : decode cX3_addChoice 21 = .ok (.bipush 40, 2) := by decide +kernel
theorem dX3_addChoice_23 : decode cX3_addChoice 23 = .ok (.if_icmp .le 4, 3) := by decide +kernel
theorem dX3_addChoice_26 : decode cX3_addChoice 26 = .ok (.return_, 1) := by decide +kernel
theorem dX3_addChoice_27 : decode cX3_addChoice 27 = .ok (.aload_n 0, 1) := by decide +kernel
theorem dX3_addChoice_28 : decode cX3_addChoice 28 = .ok (.getfield 17, 3) := by decide +kernel
theorem dX3_addChoice_31 : decode cX3_addChoice 31 = .ok (.iload_n 1, 1) := by decide +kernel
theorem dX3_addChoice_32 : decode cX3_addChoice 32 = .ok (.aaload, 1) := by decide +kernel
theorem dX3_addChoice_33 : decode cX3_addChoice 33 = .ok (.iload 4, 2) := by decide +kernel
theorem dX3_addChoice_35 : decode cX3_addChoice 35 = .ok (.iload_n 2, 1) := by decide +kernel
theorem dX3_addChoice_36 : decode cX3_addChoice 36 = .ok (.iastore, 1) := by decide +kernel
theorem dX3_addChoice_37 : decode cX3_addChoice 37 = .ok (.aload_n 0, 1) := by decide +kernel
theorem dX3_addChoice_38 : decode cX3_addChoice 38 = .ok (.getfield 20, 3) := by decide +kernel
theorem dX3_addChoice_41 : decode cX3_addChoice 41 = .ok (.iload_n 1, 1) := by decide +kernel
theorem dX3_addChoice_42 : decode cX3_addChoice 42 = .ok (.aaload, 1) := by decide +kernel
theorem dX3_addChoice_43 : decode cX3_addChoice 43 = .ok (.iload 4, 2) := by decide +kernel
theorem dX3_addChoice_45 : decode cX3_addChoice 45 = .ok (.iload_n 3, 1) := by decide +kernel
theorem dX3_addChoice_46 : decode cX3_addChoice 46 = .ok (.iastore, 1) := by decide +kernel
theorem dX3_addChoice_47 : decode cX3_addChoice 47 = .ok (.aload_n 0, 1) := by decide +kernel
theorem dX3_addChoice_48 : decode cX3_addChoice 48 = .ok (.getfield 9, 3) := by decide +kernel
theorem dX3_addChoice_51 : decode cX3_addChoice 51 = .ok (.iload_n 1, 1) := by decide +kernel
theorem dX3_addChoice_52 : decode cX3_addChoice 52 = .ok (.dup2, 1) := by decide +kernel
theorem dX3_addChoice_53 : decode cX3_addChoice 53 = .ok (.iaload, 1) := by decide +kernel
theorem dX3_addChoice_54 : decode cX3_addChoice 54 = .ok (.iconst 1, 1) := by decide +kernel
theorem dX3_addChoice_55 : decode cX3_addChoice 55 = .ok (.iadd, 1) := by decide +kernel
theorem dX3_addChoice_56 : decode cX3_addChoice 56 = .ok (.iastore, 1) := by decide +kernel
theorem dX3_addChoice_57 : decode cX3_addChoice 57 = .ok (.return_, 1) := by decide +kernel
theorem dX3_tryFrom_0 : decode cX3_tryFrom 0 = .ok (.iload_n 1, 1) := by decide +kernel
theorem dX3_tryFrom_1 : decode cX3_tryFrom 1 = .ok (.aload_n 0, 1) := by decide +kernel
theorem dX3_tryFrom_2 : decode cX3_tryFrom 2 = .ok (.getfield 32, 3) := by decide +kernel
theorem dX3_tryFrom_5 : decode cX3_tryFrom 5 = .ok (.getfield 52, 3) := by decide +kernel
theorem dX3_tryFrom_8 : decode cX3_tryFrom 8 = .ok (.if_icmp .lt 10, 3) := by decide +kernel
theorem dX3_tryFrom_11 : decode cX3_tryFrom 11 = .ok (.aload_n 0, 1) := by decide +kernel
theorem dX3_tryFrom_12 : decode cX3_tryFrom 12 = .ok (.iload_n 2, 1) := by decide +kernel
theorem dX3_tryFrom_13 : decode cX3_tryFrom 13 = .ok (.iload_n 3, 1) := by decide +kernel
theorem dX3_tryFrom_14 : decode cX3_tryFrom 14 = .ok (.invokevirtual 85, 3) := by decide +kernel
theorem dX3_tryFrom_17 : decode cX3_tryFrom 17 = .ok (.return_, 1) := by decide +kernel
theorem dX3_tryFrom_18 : decode cX3_tryFrom 18 = .ok (.iload_n 2, 1) := by decide +kernel
theorem dX3_tryFrom_19 : decode cX3_tryFrom 19 = .ok (.aload_n 0, 1) := by decide +kernel
theorem dX3_tryFrom_20 : decode cX3_tryFrom 20 = .ok (.getfield 23, 3) := by decide +kernel
theorem dX3_tryFrom_23 : decode cX3_tryFrom 23 = .ok (.iload_n 1, 1) := by decide +kernel
theorem dX3_tryFrom_24 : decode cX3_tryFrom 24 = .ok (.iaload, 1) := by decide +kernel
theorem dX3_tryFrom_25 : decode cX3_tryFrom 25 = .ok (.iadd, 1) := by decide +kernel
theorem dX3_tryFrom_26 : decode cX3_tryFrom 26 = .ok (.istore 4, 2) := by decide +kernel
theorem dX3_tryFrom_28 : decode cX3_tryFrom 28 = .ok (.iload 4, 2) := by decide +kernel
theorem dX3_tryFrom_30 : decode cX3_tryFrom 30 = .ok (.aload_n 0, 1) := by decide +kernel
theorem dX3_tryFrom_31 : decode cX3_tryFrom 31 = .ok (.getfield 46, 3) := by decide +kernel
theorem dX3_tryFrom_34 : decode cX3_tryFrom 34 = .ok (.if_icmp .lt 20, 3) := by decide +kernel
theorem dX3_tryFrom_37 : decode cX3_tryFrom 37 = .ok (.iload 4, 2) := by decide +kernel
theorem dX3_tryFrom_39 : decode cX3_tryFrom 39 = .ok (.aload_n 0, 1) := by decide +kernel
theorem dX3_tryFrom_40 : decode cX3_tryFrom 40 = .ok (.getfield 46, 3) := by decide +kernel
theorem dX3_tryFrom_43 : decode cX3_tryFrom 43 = .ok (.if_icmp .ne 12, 3) := by decide +kernel
theorem dX3_tryFrom_46 : decode cX3_tryFrom 46 = .ok (.iload_n 3, 1) := by decide +kernel
theorem dX3_tryFrom_47 : decode cX3_tryFrom 47 = .ok (.aload_n 0, 1) := by decide +kernel
theorem dX3_tryFrom_48 : decode cX3_tryFrom 48 = .ok (.getfield 49, 3) := by decide +kernel
theorem dX3_tryFrom_51 : decode cX3_tryFrom 51 = .ok (.if_icmp .le 4, 3) := by decide +kernel
theorem dX3_tryFrom_54 : decode cX3_tryFrom 54 = .ok (.return_, 1) := by decide +kernel
theorem dX3_tryFrom_55 : decode cX3_tryFrom 55 = .ok (.iconst 0, 1) := by decide +kernel
theorem dX3_tryFrom_56 : decode cX3_tryFrom 56 = .ok (.istore 5, 2) := by decide +kernel
theorem dX3_tryFrom_58 : decode cX3_tryFrom 58 = .ok (.iload 5, 2) := by decide +kernel
theorem dX3_tryFrom_60 : decode cX3_tryFrom 60 = .ok (.aload_n 0, 1) := by decide +kernel
theorem dX3_tryFrom_61 : decode cX3_tryFrom 61 = .ok (.getfield 9, 3) := by decide +kernel
theorem dX3_tryFrom_64 : decode cX3_tryFrom 64 = .ok (.iload_n 1, 1) := by decide +kernel
theorem dX3_tryFrom_65 : decode cX3_tryFrom 65 = .ok (.iaload, 1) := by decide +kernel
theorem dX3_tryFrom_66 : decode cX3_tryFrom 66 = .ok (.if_icmp .ge 67, 3) := by decide +kernel
theorem dX3_tryFrom_69 : decode cX3_tryFrom 69 = .ok (.aload_n 0, 1) := by decide +kernel
theorem dX3_tryFrom_70 : decode cX3_tryFrom 70 = .ok (.getfield 17, 3) := by decide +kernel
theorem dX3_tryFrom_73 : decode cX3_tryFrom 73 = .ok (.iload_n 1, 1) := by decide +kernel
theorem dX3_tryFrom_74 : decode cX3_tryFrom 74 = .ok (.aaload, 1) := by decide +kernel
theorem dX3_tryFrom_75 : decode cX3_tryFrom 75 = .ok (.iload 5, 2) := by decide +kernel
theorem dX3_tryFrom_77 : decode cX3_tryFrom 77 = .ok (.iaload, 1) := by decide +kernel
theorem dX3_tryFrom_78 : decode cX3_tryFrom 78 = .ok (.istore 6, 2) := by decide +kernel
theorem dX3_tryFrom_80 : decode cX3_tryFrom 80 = .ok (.iload_n 3, 1) := by decide +kernel
theorem dX3_tryFrom_81 : decode cX3_tryFrom 81 = .ok (.iload 6, 2) := by decide +kernel
theorem dX3_tryFrom_83 : decode cX3_tryFrom 83 = .ok (.iload 6, 2) := by decide +kernel
theorem dX3_tryFrom_85 : decode cX3_tryFrom 85 = .ok (.imul, 1) := by decide +kernel
theorem dX3_tryFrom_86 : decode cX3_tryFrom 86 = .ok (.iadd, 1) := by decide +kernel
theorem dX3_tryFrom_87 : decode cX3_tryFrom 87 = .ok (.aload_n 0, 1) := by decide +kernel
theorem dX3_tryFrom_88 : decode cX3_tryFrom 88 = .ok (.getfield 41, 3) := by decide +kernel
theorem dX3_tryFrom_91 : decode cX3_tryFrom 91 = .ok (.if_icmp .gt 36, 3) := by decide +kernel
theorem dX3_tryFrom_94 : decode cX3_tryFrom 94 = .ok (.aload_n 0, 1) := by decide +kernel
theorem dX3_tryFrom_95 : decode cX3_tryFrom 95 = .ok (.getfield 26, 3) := by decide +kernel
theorem dX3_tryFrom_98 : decode cX3_tryFrom 98 = .ok (.iload_n 1, 1) := by decide +kernel
theorem dX3_tryFrom_99 : decode cX3_tryFrom 99 = .ok (.iload 6, 2) := by decide +kernel
theorem dX3_tryFrom_101 : decode cX3_tryFrom 101 = .ok (.iastore, 1) := by decide +kernel
theorem dX3_tryFrom_102 : decode cX3_tryFrom 102 = .ok (.aload_n 0, 1) := by decide +kernel
theorem dX3_tryFrom_103 : decode cX3_tryFrom 103 = .ok (.iload_n 1, 1) := by decide +kernel
theorem dX3_tryFrom_104 : decode cX3_tryFrom 104 = .ok (.iconst 1, 1) := by decide +kernel
theorem dX3_tryFrom_105 : decode cX3_tryFrom 105 = .ok (.iadd, 1) := by decide +kernel
theorem dX3_tryFrom_106 : decode cX3_tryFrom 106 = .ok (.iload_n 2, 1) := by decide +kernel
theorem dX3_tryFrom_107 : decode cX3_tryFrom 107 = .ok (.aload_n 0, 1) := by decide +kernel
theorem dX3_tryFrom_108 : decode cX3_tryFrom 108 = .ok (.getfield 20, 3) := by decide +kernel
theorem dX3_tryFrom_111 : decode cX3_tryFrom 111 = .ok (.iload_n 1, 1) := by decide +kernel
theorem dX3_tryFrom_112 : decode cX3_tryFrom 112 = .ok (.aaload, 1) := by decide +kernel
theorem dX3_tryFrom_113 : decode cX3_tryFrom 113 = .ok (.iload 5, 2) := by decide +kernel
theorem dX3_tryFrom_115 : decode cX3_tryFrom 115 = .ok (.iaload, 1) := by decide +kernel
theorem dX3_tryFrom_116 : decode cX3_tryFrom 116 = .ok (.iadd, 1) := by decide +kernel
theorem dX3_tryFrom_117 : decode cX3_tryFrom 117 = .ok (.iload_n 3, 1) := by decide +kernel
theorem dX3_tryFrom_118 : decode cX3_tryFrom 118 = .ok (.iload 6, 2) := by decide +kernel
theorem dX3_tryFrom_120 : decode cX3_tryFrom 120 = .ok (.iload 6, 2) := by decide +kernel
theorem dX3_tryFrom_122 : decode cX3_tryFrom 122 = .ok (.imul, 1) := by decide +kernel
theorem dX3_tryFrom_123 : decode cX3_tryFrom 123 = .ok (.iadd, 1) := by decide +kernel
theorem dX3_tryFrom_124 : decode cX3_tryFrom 124 = .ok (.invokestatic 66, 3) := by decide +kernel
theorem dX3_tryFrom_127 : decode cX3_tryFrom 127 = .ok (.iinc 5 1, 3) := by decide +kernel
theorem dX3_tryFrom_130 : decode cX3_tryFrom 130 = .ok (.goto (-72), 3) := by decide +kernel
theorem dX3_tryFrom_133 : decode cX3_tryFrom 133 = .ok (.return_, 1) := by decide +kernel
theorem dX3_keepIfBetter_0 : decode cX3_keepIfBetter 0 = .ok (.iload_n 1, 1) := by decide +kernel
theorem dX3_keepIfBetter_1 : decode cX3_keepIfBetter 1 = .ok (.aload_n 0, 1) := by decide +kernel
theorem dX3_keepIfBetter_2 : decode cX3_keepIfBetter 2 = .ok (.getfield 46, 3) := by decide +kernel
theorem dX3_keepIfBetter_5 : decode cX3_keepIfBetter 5 = .ok (.if_icmp .ge 4, 3) := by decide +kernel
theorem dX3_keepIfBetter_8 : decode cX3_keepIfBetter 8 = .ok (.return_, 1) := by decide +kernel
theorem dX3_keepIfBetter_9 : decode cX3_keepIfBetter 9 = .ok (.iload_n 1, 1) := by decide +kernel
theorem dX3_keepIfBetter_10 : decode cX3_keepIfBetter 10 = .ok (.aload_n 0, 1) := by decide +kernel
theorem dX3_keepIfBetter_11 : decode cX3_keepIfBetter 11 = .ok (.getfield 46, 3) := by decide +kernel
theorem dX3_keepIfBetter_14 : decode cX3_keepIfBetter 14 = .ok (.if_icmp .ne 27, 3) := by decide +kernel
theorem dX3_keepIfBetter_17 : decode cX3_keepIfBetter 17 = .ok (.iload_n 2, 1) := by decide +kernel
theorem dX3_keepIfBetter_18 : decode cX3_keepIfBetter 18 = .ok (.aload_n 0, 1) := by decide +kernel
theorem dX3_keepIfBetter_19 : decode cX3_keepIfBetter 19 = .ok (.getfield 49, 3) := by decide +kernel
theorem dX3_keepIfBetter_22 : decode cX3_keepIfBetter 22 = .ok (.if_icmp .gt 18, 3) := by decide +kernel
theorem dX3_keepIfBetter_25 : decode cX3_keepIfBetter 25 = .ok (.iload_n 2, 1) := by decide +kernel
theorem dX3_keepIfBetter_26 : decode cX3_keepIfBetter 26 = .ok (.aload_n 0, 1) := by decide +kernel
theorem dX3_keepIfBetter_27 : decode cX3_keepIfBetter 27 = .ok (.getfield 49, 3) := by decide +kernel
theorem dX3_keepIfBetter_30 : decode cX3_keepIfBetter 30 = .ok (.if_icmp .ne 11, 3) := by decide +kernel
theorem dX3_keepIfBetter_33 : decode cX3_keepIfBetter 33 = .ok (.aload_n 0, 1) := by decide +kernel
theorem dX3_keepIfBetter_34 : decode cX3_keepIfBetter 34 = .ok (.invokevirtual 89, 3) := by decide +kernel
theorem dX3_keepIfBetter_37 : decode cX3_keepIfBetter 37 = .ok (.ifCond .ne 4, 3) := by decide +kernel
theorem dX3_keepIfBetter_40 : decode cX3_keepIfBetter 40 = .ok (.return_, 1) := by decide +kernel
theorem dX3_keepIfBetter_41 : decode cX3_keepIfBetter 41 = .ok (.aload_n 0, 1) := by decide +kernel
theorem dX3_keepIfBetter_42 : decode cX3_keepIfBetter 42 = .ok (.iload_n 1, 1) := by decide +kernel
theorem dX3_keepIfBetter_43 : decode cX3_keepIfBetter 43 = .ok (.putfield 46, 3) := by decide +kernel
theorem dX3_keepIfBetter_46 : decode cX3_keepIfBetter 46 = .ok (.aload_n 0, 1) := by decide +kernel
theorem dX3_keepIfBetter_47 : decode cX3_keepIfBetter 47 = .ok (.iload_n 2, 1) := by decide +kernel
theorem dX3_keepIfBetter_48 : decode cX3_keepIfBetter 48 = .ok (.putfield 49, 3) := by decide +kernel
theorem dX3_keepIfBetter_51 : decode cX3_keepIfBetter 51 = .ok (.aload_n 0, 1) := by decide +kernel
theorem dX3_keepIfBetter_52 : decode cX3_keepIfBetter 52 = .ok (.getfield 26, 3) := by decide +kernel
theorem dX3_keepIfBetter_55 : decode cX3_keepIfBetter 55 = .ok (.iconst 0, 1) := by decide +kernel
theorem dX3_keepIfBetter_56 : decode cX3_keepIfBetter 56 = .ok (.aload_n 0, 1) := by decide +kernel
theorem dX3_keepIfBetter_57 : decode cX3_keepIfBetter 57 = .ok (.getfield 29, 3) := by decide +kernel
theorem dX3_keepIfBetter_60 : decode cX3_keepIfBetter 60 = .ok (.iconst 0, 1) := by decide +kernel
theorem dX3_keepIfBetter_61 : decode cX3_keepIfBetter 61 = .ok (.aload_n 0, 1) := by decide +kernel
theorem dX3_keepIfBetter_62 : decode cX3_keepIfBetter 62 = .ok (.getfield 32, 3) := by decide +kernel
theorem dX3_keepIfBetter_65 : decode cX3_keepIfBetter 65 = .ok (.getfield 52, 3) := by decide +kernel
theorem dX3_keepIfBetter_68 : decode cX3_keepIfBetter 68 = .ok (.invokestatic 73, 3) := by decide +kernel
theorem dX3_keepIfBetter_71 : decode cX3_keepIfBetter 71 = .ok (.return_, 1) := by decide +kernel
theorem dX3_triedIsLess_0 : decode cX3_triedIsLess 0 = .ok (.iconst 0, 1) := by decide +kernel
theorem dX3_triedIsLess_1 : decode cX3_triedIsLess 1 = .ok (.istore_n 1, 1) := by decide +kernel
theorem dX3_triedIsLess_2 : decode cX3_triedIsLess 2 = .ok (.iload_n 1, 1) := by decide +kernel
theorem dX3_triedIsLess_3 : decode cX3_triedIsLess 3 = .ok (.aload_n 0, 1) := by decide +kernel
theorem dX3_triedIsLess_4 : decode cX3_triedIsLess 4 = .ok (.getfield 32, 3) := by decide +kernel
theorem dX3_triedIsLess_7 : decode cX3_triedIsLess 7 = .ok (.getfield 52, 3) := by decide +kernel
theorem dX3_triedIsLess_10 : decode cX3_triedIsLess 10 = .ok (.if_icmp .ge 45, 3) := by decide +kernel
theorem dX3_triedIsLess_13 : decode cX3_triedIsLess 13 = .ok (.aload_n 0, 1) := by decide +kernel
theorem dX3_triedIsLess_14 : decode cX3_triedIsLess 14 = .ok (.getfield 26, 3) := by decide +kernel
theorem dX3_triedIsLess_17 : decode cX3_triedIsLess 17 = .ok (.iload_n 1, 1) := by decide +kernel
theorem dX3_triedIsLess_18 : decode cX3_triedIsLess 18 = .ok (.iaload, 1) := by decide +kernel
theorem dX3_triedIsLess_19 : decode cX3_triedIsLess 19 = .ok (.aload_n 0, 1) := by decide +kernel
theorem dX3_triedIsLess_20 : decode cX3_triedIsLess 20 = .ok (.getfield 29, 3) := by decide +kernel
theorem dX3_triedIsLess_23 : decode cX3_triedIsLess 23 = .ok (.iload_n 1, 1) := by decide +kernel
theorem dX3_triedIsLess_24 : decode cX3_triedIsLess 24 = .ok (.iaload, 1) := by decide +kernel
theorem dX3_triedIsLess_25 : decode cX3_triedIsLess 25 = .ok (.if_icmp .eq 24, 3) := by decide +kernel
theorem dX3_triedIsLess_28 : decode cX3_triedIsLess 28 = .ok (.aload_n 0, 1) := by decide +kernel
theorem dX3_triedIsLess_29 : decode cX3_triedIsLess 29 = .ok (.getfield 26, 3) := by decide +kernel
theorem dX3_triedIsLess_32 : decode cX3_triedIsLess 32 = .ok (.iload_n 1, 1) := by decide +kernel
theorem dX3_triedIsLess_33 : decode cX3_triedIsLess 33 = .ok (.iaload, 1) := by decide +kernel
theorem dX3_triedIsLess_34 : decode cX3_triedIsLess 34 = .ok (.aload_n 0, 1) := by decide +kernel
theorem dX3_triedIsLess_35 : decode cX3_triedIsLess 35 = .ok (.getfield 29, 3) := by decide +kernel
theorem dX3_triedIsLess_38 : decode cX3_triedIsLess 38 = .ok (.iload_n 1, 1) := by decide +kernel
theorem dX3_triedIsLess_39 : decode cX3_triedIsLess 39 = .ok (.iaload, 1) := by decide +kernel
theorem dX3_triedIsLess_40 : decode cX3_triedIsLess 40 = .ok (.if_icmp .ge 7, 3) := by decide +kernel
theorem dX3_triedIsLess_43 : decode cX3_triedIsLess 43 = .ok (.iconst 1, 1) := by decide +kernel
theorem dX3_triedIsLess_44 : decode cX3_triedIsLess 44 = .ok (.goto 4, 3) := by decide +kernel
theorem dX3_triedIsLess_47 : decode cX3_triedIsLess 47 = .ok (.iconst 0, 1) := by decide +kernel
theorem dX3_triedIsLess_48 : decode cX3_triedIsLess 48 = .ok (.ireturn, 1) := by decide +kernel
theorem dX3_triedIsLess_49 : decode cX3_triedIsLess 49 = .ok (.iinc 1 1, 3) := by decide +kernel
theorem dX3_triedIsLess_52 : decode cX3_triedIsLess 52 = .ok (.goto (-50), 3) := by decide +kernel
theorem dX3_triedIsLess_55 : decode cX3_triedIsLess 55 = .ok (.iconst 0, 1) := by decide +kernel
theorem dX3_triedIsLess_56 : decode cX3_triedIsLess 56 = .ok (.ireturn, 1) := by decide +kernel
theorem dX4_init_0 : decode cX4_init 0 = .ok (.aload_n 0, 1) := by decide +kernel
theorem dX4_init_1 : decode cX4_init 1 = .ok (.invokespecial 1, 3) := by decide +kernel
theorem dX4_init_4 : decode cX4_init 4 = .ok (.aload_n 0, 1) := by decide +kernel
theorem dX4_init_5 : decode cX4_init 5 = .ok (.new 7, 3) := by decide +kernel
theorem dX4_init_8 : decode cX4_init 8 = .ok (.dup, 1) := by decide +kernel
theorem dX4_init_9 : decode cX4_init 9 = .ok (.invokespecial 9, 3) := by decide +kernel
theorem dX4_init_12 : decode cX4_init 12 = .ok (.putfield 10, 3) := by decide +kernel
theorem dX4_init_15 : decode cX4_init 15 = .ok (.aload_n 0, 1) := by decide +kernel
theorem dX4_init_16 : decode cX4_init 16 = .ok (.new 16, 3) := by decide +kernel
theorem dX4_init_19 : decode cX4_init 19 = .ok (.dup, 1) := by decide +kernel
theorem dX4_init_20 : decode cX4_init 20 = .ok (.aload_n 0, 1) := by decide +kernel
theorem dX4_init_21 : decode cX4_init 21 = .ok (.getfield 10, 3) := by decide +kernel
theorem dX4_init_24 : decode cX4_init 24 = .ok (.invokespecial 18, 3) := by decide +kernel
theorem dX4_init_27 : decode cX4_init 27 = .ok (.putfield 21, 3) := by decide +kernel
theorem dX4_init_30 : decode cX4_init 30 = .ok (.aload_n 0, 1) := by decide +kernel
theorem dX4_init_31 : decode cX4_init 31 = .ok (.new 25, 3) := by decide +kernel
theorem dX4_init_34 : decode cX4_init 34 = .ok (.dup, 1) := by decide +kernel
theorem dX4_init_35 : decode cX4_init 35 = .ok (.aload_n 0, 1) := by decide +kernel
theorem dX4_init_36 : decode cX4_init 36 = .ok (.getfield 10, 3) := by decide +kernel
theorem dX4_init_39 : decode cX4_init 39 = .ok (.aload_n 0, 1) := by decide +kernel
theorem dX4_init_40 : decode cX4_init 40 = .ok (.getfield 21, 3) := by decide +kernel
theorem dX4_init_43 : decode cX4_init 43 = .ok (.invokespecial 27, 3) := by decide +kernel
theorem dX4_init_46 : decode cX4_init 46 = .ok (.putfield 30, 3) := by decide +kernel
theorem dX4_init_49 : decode cX4_init 49 = .ok (.aload_n 0, 1) := by decide +kernel
theorem dX4_init_50 : decode cX4_init 50 = .ok (.new 34, 3) := by decide +kernel
theorem dX4_init_53 : decode cX4_init 53 = .ok (.dup, 1) := by decide +kernel
theorem dX4_init_54 : decode cX4_init 54 = .ok (.aload_n 0, 1) := by decide +kernel
theorem dX4_init_55 : decode cX4_init 55 = .ok (.getfield 10, 3) := by decide +kernel
theorem dX4_init_58 : decode cX4_init 58 = .ok (.invokespecial 36, 3) := by decide +kernel
theorem dX4_init_61 : decode cX4_init 61 = .ok (.putfield 37, 3) := by decide +kernel
theorem dX4_init_64 : decode cX4_init 64 = .ok (.return_, 1) := by decide +kernel
theorem dX4_person_0 : decode cX4_person 0 = .ok (.iload_n 1, 1) := by decide +kernel
theorem dX4_person_1 : decode cX4_person 1 = .ok (.iconst 0, 1) := by decide +kernel
theorem dX4_person_2 : decode cX4_person 2 = .ok (.sipush 2000, 3) := by decide +kernel
theorem dX4_person_5 : decode cX4_person 5 = .ok (.invokestatic 41, 3) := by decide +kernel
theorem dX4_person_8 : decode cX4_person 8 = .ok (.ifCond .ne 6, 3) := by decide +kernel
theorem dX4_person_11 : decode cX4_person 11 = .ok (.bipush (-102), 2) := by decide +kernel
theorem dX4_person_13 : decode cX4_person 13 = .ok (.ireturn, 1) := by decide +kernel
theorem dX4_person_14 : decode cX4_person 14 = .ok (.aload_n 0, 1) := by decide +kernel
theorem dX4_person_15 : decode cX4_person 15 = .ok (.getfield 10, 3) := by decide +kernel
theorem dX4_person_18 : decode cX4_person 18 = .ok (.getfield 45, 3) := by decide +kernel
theorem dX4_person_21 : decode cX4_person 21 = .ok (.bipush 12, 2) := by decide +kernel
theorem dX4_person_23 : decode cX4_person 23 = .ok (.if_icmp .lt 6, 3) := by decide +kernel
theorem dX4_person_26 : decode cX4_person 26 = .ok (.bipush (-104), 2) := by decide +kernel
theorem dX4_person_28 : decode cX4_person 28 = .ok (.ireturn, 1) := by decide +kernel
theorem dX4_person_29 : decode cX4_person 29 = .ok (.aload_n 0, 1) := by decide +kernel
theorem dX4_person_30 : decode cX4_person 30 = .ok (.getfield 10, 3) := by decide +kernel
theorem dX4_person_33 : decode cX4_person 33 = .ok (.iload_n 1, 1) := by decide +kernel
theorem dX4_person_34 : decode cX4_person 34 = .ok (.invokevirtual 49, 3) := by decide +kernel
theorem dX4_person_37 : decode cX4_person 37 = .ok (.ireturn, 1) := by decide +kernel
theorem dX4_question_0 : decode cX4_question 0 = .ok (.aload_n 0, 1) := by decide +kernel
theorem dX4_question_1 : decode cX4_question 1 = .ok (.getfield 10, 3) := by decide +kernel
theorem dX4_question_4 : decode cX4_question 4 = .ok (.getfield 53, 3) := by decide +kernel
theorem dX4_question_7 : decode cX4_question 7 = .ok (.bipush 6, 2) := by decide +kernel
theorem dX4_question_9 : decode cX4_question 9 = .ok (.if_icmp .lt 6, 3) := by decide +kernel
theorem dX4_question_12 : decode cX4_question 12 = .ok (.bipush (-104), 2) := by decide +kernel
theorem dX4_question_14 : decode cX4_question 14 = .ok (.ireturn, 1) := by decide +kernel
theorem dX4_question_15 : decode cX4_question 15 = .ok (.aload_n 0, 1) := by decide +kernel
theorem dX4_question_16 : decode cX4_question 16 = .ok (.getfield 10, 3) := by decide +kernel
theorem dX4_question_19 : decode cX4_question 19 = .ok (.dup, 1) := by decide +kernel
theorem dX4_question_20 : decode cX4_question 20 = .ok (.getfield 53, 3) := by decide +kernel
theorem dX4_question_23 : decode cX4_question 23 = .ok (.iconst 1, 1) := by decide +kernel
theorem dX4_question_24 : decode cX4_question 24 = .ok (.iadd, 1) := by decide +kernel
theorem dX4_question_25 : decode cX4_question 25 = .ok (.putfield 53, 3) := by decide +kernel
theorem dX4_question_28 : decode cX4_question 28 = .ok (.aload_n 0, 1) := by decide +kernel
theorem dX4_question_29 : decode cX4_question 29 = .ok (.getfield 10, 3) := by decide +kernel
theorem dX4_question_32 : decode cX4_question 32 = .ok (.getfield 53, 3) := by decide +kernel
theorem dX4_question_35 : decode cX4_question 35 = .ok (.iconst 1, 1) := by decide +kernel
theorem dX4_question_36 : decode cX4_question 36 = .ok (.isub, 1) := by decide +kernel
theorem dX4_question_37 : decode cX4_question 37 = .ok (.ireturn, 1) := by decide +kernel
theorem dX4_project_0 : decode cX4_project 0 = .ok (.aload_n 0, 1) := by decide +kernel
theorem dX4_project_1 : decode cX4_project 1 = .ok (.getfield 37, 3) := by decide +kernel
theorem dX4_project_4 : decode cX4_project 4 = .ok (.getfield 56, 3) := by decide +kernel
theorem dX4_project_7 : decode cX4_project 7 = .ok (.bipush 6, 2) := by decide +kernel
theorem dX4_project_9 : decode cX4_project 9 = .ok (.if_icmp .lt 6, 3) := by decide +kernel
theorem dX4_project_12 : decode cX4_project 12 = .ok (.bipush (-104), 2) := by decide +kernel
theorem dX4_project_14 : decode cX4_project 14 = .ok (.ireturn, 1) := by decide +kernel
theorem dX4_project_15 : decode cX4_project 15 = .ok (.aload_n 0, 1) := by decide +kernel
theorem dX4_project_16 : decode cX4_project 16 = .ok (.getfield 37, 3) := by decide +kernel
theorem dX4_project_19 : decode cX4_project 19 = .ok (.dup, 1) := by decide +kernel
theorem dX4_project_20 : decode cX4_project 20 = .ok (.getfield 56, 3) := by decide +kernel
theorem dX4_project_23 : decode cX4_project 23 = .ok (.iconst 1, 1) := by decide +kernel
theorem dX4_project_24 : decode cX4_project 24 = .ok (.iadd, 1) := by decide +kernel
theorem dX4_project_25 : decode cX4_project 25 = .ok (.putfield 56, 3) := by decide +kernel
theorem dX4_project_28 : decode cX4_project 28 = .ok (.aload_n 0, 1) := by decide +kernel
theorem dX4_project_29 : decode cX4_project 29 = .ok (.getfield 37, 3) := by decide +kernel
theorem dX4_project_32 : decode cX4_project 32 = .ok (.getfield 56, 3) := by decide +kernel
theorem dX4_project_35 : decode cX4_project 35 = .ok (.iconst 1, 1) := by decide +kernel
theorem dX4_project_36 : decode cX4_project 36 = .ok (.isub, 1) := by decide +kernel
theorem dX4_project_37 : decode cX4_project 37 = .ok (.ireturn, 1) := by decide +kernel
theorem dX4_seed_0 : decode cX4_seed 0 = .ok (.aload_n 0, 1) := by decide +kernel
theorem dX4_seed_1 : decode cX4_seed 1 = .ok (.getfield 10, 3) := by decide +kernel
theorem dX4_seed_4 : decode cX4_seed 4 = .ok (.getfield 59, 3) := by decide +kernel
theorem dX4_seed_7 : decode cX4_seed 7 = .ok (.istore_n 2, 1) := by decide +kernel
theorem dX4_seed_8 : decode cX4_seed 8 = .ok (.aload_n 0, 1) := by decide +kernel
theorem dX4_seed_9 : decode cX4_seed 9 = .ok (.getfield 10, 3) := by decide +kernel
theorem dX4_seed_12 : decode cX4_seed 12 = .ok (.iload_n 1, 1) := by decide +kernel
theorem dX4_seed_13 : decode cX4_seed 13 = .ok (.putfield 59, 3) := by decide +kernel
theorem dX4_seed_16 : decode cX4_seed 16 = .ok (.iload_n 2, 1) := by decide +kernel
theorem dX4_seed_17 : decode cX4_seed 17 = .ok (.ireturn, 1) := by decide +kernel
theorem dX4_vote_0 : decode cX4_vote 0 = .ok (.aload_n 0, 1) := by decide +kernel
theorem dX4_vote_1 : decode cX4_vote 1 = .ok (.getfield 10, 3) := by decide +kernel
theorem dX4_vote_4 : decode cX4_vote 4 = .ok (.iload_n 1, 1) := by decide +kernel
theorem dX4_vote_5 : decode cX4_vote 5 = .ok (.invokevirtual 62, 3) := by decide +kernel
theorem dX4_vote_8 : decode cX4_vote 8 = .ok (.ifCond .eq 14, 3) := by decide +kernel
theorem dX4_vote_11 : decode cX4_vote 11 = .ok (.aload_n 0, 1) := by decide +kernel
theorem dX4_vote_12 : decode cX4_vote 12 = .ok (.getfield 10, 3) := by decide +kernel
theorem dX4_vote_15 : decode cX4_vote 15 = .ok (.iload_n 2, 1) := by decide +kernel
theorem dX4_vote_16 : decode cX4_vote 16 = .ok (.invokevirtual 66, 3) := by decide +kernel
theorem dX4_vote_19 : decode cX4_vote 19 = .ok (.ifCond .ne 6, 3) := by decide +kernel
theorem dX4_vote_22 : decode cX4_vote 22 = .ok (.bipush (-101), 2) := by decide +kernel
theorem dX4_vote_24 : decode cX4_vote 24 = .ok (.ireturn, 1) := by decide +kernel
theorem dX4_vote_25 : decode cX4_vote 25 = .ok (.iload_n 3, 1) := by decide +kernel
theorem dX4_vote_26 : decode cX4_vote 26 = .ok (.bipush (-40), 2) := by decide +kernel
theorem dX4_vote_28 : decode cX4_vote 28 = .ok (.bipush 40, 2) := by decide +kernel
theorem dX4_vote_30 : decode cX4_vote 30 = .ok (.invokestatic 41, 3) := by decide +kernel
theorem dX4_vote_33 : decode cX4_vote 33 = .ok (.ifCond .ne 6, 3) := by decide +kernel
theorem dX4_vote_36 : decode cX4_vote 36 = .ok (.bipush (-102), 2) := by decide +kernel
theorem dX4_vote_38 : decode cX4_vote 38 = .ok (.ireturn, 1) := by decide +kernel
theorem dX4_vote_39 : decode cX4_vote 39 = .ok (.aload_n 0, 1) := by decide +kernel
theorem dX4_vote_40 : decode cX4_vote 40 = .ok (.getfield 10, 3) := by decide +kernel
theorem dX4_vote_43 : decode cX4_vote 43 = .ok (.getfield 69, 3) := by decide +kernel
theorem dX4_vote_46 : decode cX4_vote 46 = .ok (.iload_n 1, 1) := by decide +kernel
theorem dX4_vote_47 : decode cX4_vote 47 = .ok (.aaload, 1) := by decide +kernel
theorem dX4_vote_48 : decode cX4_vote 48 = .ok (.iload_n 2, 1) := by decide +kernel
theorem dX4_vote_49 : decode cX4_vote 49 = .ok (.iaload, 1) := by decide +kernel
theorem dX4_vote_50 : decode cX4_vote 50 = .ok (.istore 4, 2) := by decide +kernel
theorem dX4_vote_52 : decode cX4_vote 52 = .ok (.aload_n 0, 1) := by decide +kernel
theorem dX4_vote_53 : decode cX4_vote 53 = .ok (.getfield 10, 3) := by decide +kernel
theorem dX4_vote_56 : decode cX4_vote 56 = .ok (.iload_n 1, 1) := by decide +kernel
theorem dX4_vote_57 : decode cX4_vote 57 = .ok (.invokevirtual 73, 3) := by decide +kernel
theorem dX4_vote_60 : decode cX4_vote 60 = .ok (.iload 4, 2) := by decide +kernel
theorem dX4_vote_62 : decode cX4_vote 62 = .ok (.iload 4, 2) := by decide +kernel
theorem dX4_vote_64 : decode cX4_vote 64 = .ok (.imul, 1) := by decide +kernel
theorem dX4_vote_65 : decode cX4_vote 65 = .ok (.isub, 1) := by decide +kernel
theorem dX4_vote_66 : decode cX4_vote 66 = .ok (.iload_n 3, 1) := by decide +kernel
theorem dX4_vote_67 : decode cX4_vote 67 = .ok (.iload_n 3, 1) := by decide +kernel
theorem dX4_vote_68 : decode cX4_vote 68 = .ok (.imul, 1) := by decide +kernel
theorem dX4_vote_69 : decode cX4_vote 69 = .ok (.iadd, 1) := by decide +kernel
theorem dX4_vote_70 : decode cX4_vote 70 = .ok (.istore 5, 2) := by decide +kernel
theorem dX4_vote_72 : decode cX4_vote 72 = .ok (.iload 5, 2) := by decide +kernel
theorem dX4_vote_74 : decode cX4_vote 74 = .ok (.aload_n 0, 1) := by decide +kernel
theorem dX4_vote_75 : decode cX4_vote 75 = .ok (.getfield 10, 3) := by decide +kernel
theorem dX4_vote_78 : decode cX4_vote 78 = .ok (.getfield 76, 3) := by decide +kernel
theorem dX4_vote_81 : decode cX4_vote 81 = .ok (.iload_n 1, 1) := by decide +kernel
theorem dX4_vote_82 : decode cX4_vote 82 = .ok (.iaload, 1) := by decide +kernel
theorem dX4_vote_83 : decode cX4_vote 83 = .ok (.if_icmp .le 6, 3) := by decide +kernel
theorem dX4_vote_86 : decode cX4_vote 86 = .ok (.bipush (-103), 2) := by decide +kernel
theorem dX4_vote_88 : decode cX4_vote 88 = .ok (.ireturn, 1) := by decide +kernel
theorem dX4_vote_89 : decode cX4_vote 89 = .ok (.aload_n 0, 1) := by decide +kernel
theorem dX4_vote_90 : decode cX4_vote 90 = .ok (.getfield 10, 3) := by decide +kernel
theorem dX4_vote_93 : decode cX4_vote 93 = .ok (.getfield 69, 3) := by decide +kernel
theorem dX4_vote_96 : decode cX4_vote 96 = .ok (.iload_n 1, 1) := by decide +kernel
theorem dX4_vote_97 : decode cX4_vote 97 = .ok (.aaload, 1) := by decide +kernel
theorem dX4_vote_98 : decode cX4_vote 98 = .ok (.iload_n 2, 1) := by decide +kernel
theorem dX4_vote_99 : decode cX4_vote 99 = .ok (.iload_n 3, 1) := by decide +kernel
theorem dX4_vote_100 : decode cX4_vote 100 = .ok (.iastore, 1) := by decide +kernel
theorem dX4_vote_101 : decode cX4_vote 101 = .ok (.iload 5, 2) := by decide +kernel
theorem dX4_vote_103 : decode cX4_vote 103 = .ok (.ireturn, 1) := by decide +kernel
theorem dX4_worth_0 : decode cX4_worth 0 = .ok (.aload_n 0, 1) := by decide +kernel
theorem dX4_worth_1 : decode cX4_worth 1 = .ok (.getfield 10, 3) := by decide +kernel
theorem dX4_worth_4 : decode cX4_worth 4 = .ok (.iload_n 1, 1) := by decide +kernel
theorem dX4_worth_5 : decode cX4_worth 5 = .ok (.invokevirtual 62, 3) := by decide +kernel
theorem dX4_worth_8 : decode cX4_worth 8 = .ok (.ifCond .eq 14, 3) := by decide +kernel
theorem dX4_worth_11 : decode cX4_worth 11 = .ok (.aload_n 0, 1) := by decide +kernel
theorem dX4_worth_12 : decode cX4_worth 12 = .ok (.getfield 10, 3) := by decide +kernel
theorem dX4_worth_15 : decode cX4_worth 15 = .ok (.iload_n 2, 1) := by decide +kernel
theorem dX4_worth_16 : decode cX4_worth 16 = .ok (.invokevirtual 66, 3) := by decide +kernel
theorem dX4_worth_19 : decode cX4_worth 19 = .ok (.ifCond .ne 6, 3) := by decide +kernel
theorem dX4_worth_22 : decode cX4_worth 22 = .ok (.bipush (-101), 2) := by decide +kernel
theorem dX4_worth_24 : decode cX4_worth 24 = .ok (.ireturn, 1) := by decide +kernel
theorem dX4_worth_25 : decode cX4_worth 25 = .ok (.iload_n 3, 1) := by decide +kernel
theorem dX4_worth_26 : decode cX4_worth 26 = .ok (.sipush (-1000), 3) := by decide +kernel
theorem dX4_worth_29 : decode cX4_worth 29 = .ok (.sipush 1000, 3) := by decide +kernel
theorem dX4_worth_32 : decode cX4_worth 32 = .ok (.invokestatic 41, 3) := by decide +kernel
theorem dX4_worth_35 : decode cX4_worth 35 = .ok (.ifCond .ne 6, 3) := by decide +kernel
theorem dX4_worth_38 : decode cX4_worth 38 = .ok (.bipush (-102), 2) := by decide +kernel
theorem dX4_worth_40 : decode cX4_worth 40 = .ok (.ireturn, 1) := by decide +kernel
theorem dX4_worth_41 : decode cX4_worth 41 = .ok (.aload_n 0, 1) := by decide +kernel
theorem dX4_worth_42 : decode cX4_worth 42 = .ok (.getfield 10, 3) := by decide +kernel
theorem dX4_worth_45 : decode cX4_worth 45 = .ok (.getfield 80, 3) := by decide +kernel
theorem dX4_worth_48 : decode cX4_worth 48 = .ok (.iload_n 1, 1) := by decide +kernel
theorem dX4_worth_49 : decode cX4_worth 49 = .ok (.aaload, 1) := by decide +kernel
theorem dX4_worth_50 : decode cX4_worth 50 = .ok (.iload_n 2, 1) := by decide +kernel
theorem dX4_worth_51 : decode cX4_worth 51 = .ok (.iaload, 1) := by decide +kernel
theorem dX4_worth_52 : decode cX4_worth 52 = .ok (.istore 4, 2) := by decide +kernel
theorem dX4_worth_54 : decode cX4_worth 54 = .ok (.aload_n 0, 1) := by decide +kernel
theorem dX4_worth_55 : decode cX4_worth 55 = .ok (.getfield 10, 3) := by decide +kernel
theorem dX4_worth_58 : decode cX4_worth 58 = .ok (.getfield 80, 3) := by decide +kernel
theorem dX4_worth_61 : decode cX4_worth 61 = .ok (.iload_n 1, 1) := by decide +kernel
theorem dX4_worth_62 : decode cX4_worth 62 = .ok (.aaload, 1) := by decide +kernel
theorem dX4_worth_63 : decode cX4_worth 63 = .ok (.iload_n 2, 1) := by decide +kernel
theorem dX4_worth_64 : decode cX4_worth 64 = .ok (.iload_n 3, 1) := by decide +kernel
theorem dX4_worth_65 : decode cX4_worth 65 = .ok (.iastore, 1) := by decide +kernel
theorem dX4_worth_66 : decode cX4_worth 66 = .ok (.iload 4, 2) := by decide +kernel
theorem dX4_worth_68 : decode cX4_worth 68 = .ok (.ireturn, 1) := by decide +kernel
theorem dX4_here_0 : decode cX4_here 0 = .ok (.aload_n 0, 1) := by decide +kernel
theorem dX4_here_1 : decode cX4_here 1 = .ok (.getfield 10, 3) := by decide +kernel
theorem dX4_here_4 : decode cX4_here 4 = .ok (.iload_n 1, 1) := by decide +kernel
theorem dX4_here_5 : decode cX4_here 5 = .ok (.invokevirtual 62, 3) := by decide +kernel
theorem dX4_here_8 : decode cX4_here 8 = .ok (.ifCond .ne 6, 3) := by decide +kernel
theorem dX4_here_11 : decode cX4_here 11 = .ok (.bipush (-101), 2) := by decide +kernel
theorem dX4_here_13 : decode cX4_here 13 = .ok (.ireturn, 1) := by decide +kernel
theorem dX4_here_14 : decode cX4_here 14 = .ok (.aload_n 0, 1) := by decide +kernel
theorem dX4_here_15 : decode cX4_here 15 = .ok (.getfield 10, 3) := by decide +kernel
theorem dX4_here_18 : decode cX4_here 18 = .ok (.getfield 83, 3) := by decide +kernel
theorem dX4_here_21 : decode cX4_here 21 = .ok (.iload_n 1, 1) := by decide +kernel
theorem dX4_here_22 : decode cX4_here 22 = .ok (.baload, 1) := by decide +kernel
theorem dX4_here_23 : decode cX4_here 23 = .ok (.istore_n 3, 1) := by decide +kernel
theorem dX4_here_24 : decode cX4_here 24 = .ok (.aload_n 0, 1) := by decide +kernel
theorem dX4_here_25 : decode cX4_here 25 = .ok (.getfield 10, 3) := by decide +kernel
theorem dX4_here_28 : decode cX4_here 28 = .ok (.getfield 83, 3) := by decide +kernel
theorem dX4_here_31 : decode cX4_here 31 = .ok (.iload_n 1, 1) := by decide +kernel
theorem dX4_here_32 : decode cX4_here 32 = .ok (.iload_n 2, 1) := by decide +kernel
theorem dX4_here_33 : decode cX4_here 33 = .ok (.bastore, 1) := by decide +kernel
theorem dX4_here_34 : decode cX4_here 34 = .ok (.iload_n 3, 1) := by decide +kernel
theorem dX4_here_35 : decode cX4_here 35 = .ok (.ifCond .eq 7, 3) := by decide +kernel
theorem dX4_here_38 : decode cX4_here 38 = .ok (.iconst 1, 1) := by decide +kernel
theorem dX4_here_39 : decode cX4_here 39 = .ok (.goto 4, 3) := by decide +kernel
theorem dX4_here_42 : decode cX4_here 42 = .ok (.iconst 0, 1) := by decide +kernel
theorem dX4_here_43 : decode cX4_here 43 = .ok (.ireturn, 1) := by decide +kernel
theorem dX4_voices_0 : decode cX4_voices 0 = .ok (.aload_n 0, 1) := by decide +kernel
theorem dX4_voices_1 : decode cX4_voices 1 = .ok (.getfield 10, 3) := by decide +kernel
theorem dX4_voices_4 : decode cX4_voices 4 = .ok (.iload_n 1, 1) := by decide +kernel
theorem dX4_voices_5 : decode cX4_voices 5 = .ok (.invokevirtual 62, 3) := by decide +kernel
theorem dX4_voices_8 : decode cX4_voices 8 = .ok (.ifCond .eq 14, 3) := by decide +kernel
theorem dX4_voices_11 : decode cX4_voices 11 = .ok (.aload_n 0, 1) := by decide +kernel
theorem dX4_voices_12 : decode cX4_voices 12 = .ok (.getfield 10, 3) := by decide +kernel
theorem dX4_voices_15 : decode cX4_voices 15 = .ok (.iload_n 2, 1) := by decide +kernel
theorem dX4_voices_16 : decode cX4_voices 16 = .ok (.invokevirtual 66, 3) := by decide +kernel
theorem dX4_voices_19 : decode cX4_voices 19 = .ok (.ifCond .ne 7, 3) := by decide +kernel
theorem dX4_voices_22 : decode cX4_voices 22 = .ok (.sipush (-2000), 3) := by decide +kernel
theorem dX4_voices_25 : decode cX4_voices 25 = .ok (.ireturn, 1) := by decide +kernel
theorem dX4_voices_26 : decode cX4_voices 26 = .ok (.aload_n 0, 1) := by decide +kernel
theorem dX4_voices_27 : decode cX4_voices 27 = .ok (.getfield 10, 3) := by decide +kernel
theorem dX4_voices_30 : decode cX4_voices 30 = .ok (.getfield 69, 3) := by decide +kernel
theorem dX4_voices_33 : decode cX4_voices 33 = .ok (.iload_n 1, 1) := by decide +kernel
theorem dX4_voices_34 : decode cX4_voices 34 = .ok (.aaload, 1) := by decide +kernel
theorem dX4_voices_35 : decode cX4_voices 35 = .ok (.iload_n 2, 1) := by decide +kernel
theorem dX4_voices_36 : decode cX4_voices 36 = .ok (.iaload, 1) := by decide +kernel
theorem dX4_voices_37 : decode cX4_voices 37 = .ok (.ireturn, 1) := by decide +kernel
theorem dX4_cost_0 : decode cX4_cost 0 = .ok (.aload_n 0, 1) := by decide +kernel
theorem dX4_cost_1 : decode cX4_cost 1 = .ok (.getfield 10, 3) := by decide +kernel
theorem dX4_cost_4 : decode cX4_cost 4 = .ok (.iload_n 1, 1) := by decide +kernel
theorem dX4_cost_5 : decode cX4_cost 5 = .ok (.invokevirtual 62, 3) := by decide +kernel
theorem dX4_cost_8 : decode cX4_cost 8 = .ok (.ifCond .ne 6, 3) := by decide +kernel
theorem dX4_cost_11 : decode cX4_cost 11 = .ok (.bipush (-101), 2) := by decide +kernel
theorem dX4_cost_13 : decode cX4_cost 13 = .ok (.ireturn, 1) := by decide +kernel
theorem dX4_cost_14 : decode cX4_cost 14 = .ok (.aload_n 0, 1) := by decide +kernel
theorem dX4_cost_15 : decode cX4_cost 15 = .ok (.getfield 10, 3) := by decide +kernel
theorem dX4_cost_18 : decode cX4_cost 18 = .ok (.iload_n 1, 1) := by decide +kernel
theorem dX4_cost_19 : decode cX4_cost 19 = .ok (.invokevirtual 73, 3) := by decide +kernel
theorem dX4_cost_22 : decode cX4_cost 22 = .ok (.ireturn, 1) := by decide +kernel
theorem dX4_total_0 : decode cX4_total 0 = .ok (.aload_n 0, 1) := by decide +kernel
theorem dX4_total_1 : decode cX4_total 1 = .ok (.getfield 10, 3) := by decide +kernel
theorem dX4_total_4 : decode cX4_total 4 = .ok (.iload_n 1, 1) := by decide +kernel
theorem dX4_total_5 : decode cX4_total 5 = .ok (.invokevirtual 66, 3) := by decide +kernel
theorem dX4_total_8 : decode cX4_total 8 = .ok (.ifCond .ne 7, 3) := by decide +kernel
theorem dX4_total_11 : decode cX4_total 11 = .ok (.sipush (-2000), 3) := by decide +kernel
theorem dX4_total_14 : decode cX4_total 14 = .ok (.ireturn, 1) := by decide +kernel
theorem dX4_total_15 : decode cX4_total 15 = .ok (.aload_n 0, 1) := by decide +kernel
theorem dX4_total_16 : decode cX4_total 16 = .ok (.getfield 10, 3) := by decide +kernel
theorem dX4_total_19 : decode cX4_total 19 = .ok (.iload_n 1, 1) := by decide +kernel
theorem dX4_total_20 : decode cX4_total 20 = .ok (.invokevirtual 87, 3) := by decide +kernel
theorem dX4_total_23 : decode cX4_total 23 = .ok (.ireturn, 1) := by decide +kernel
theorem dX4_result_0 : decode cX4_result 0 = .ok (.aload_n 0, 1) := by decide +kernel
theorem dX4_result_1 : decode cX4_result 1 = .ok (.getfield 10, 3) := by decide +kernel
theorem dX4_result_4 : decode cX4_result 4 = .ok (.iload_n 1, 1) := by decide +kernel
theorem dX4_result_5 : decode cX4_result 5 = .ok (.invokevirtual 66, 3) := by decide +kernel
theorem dX4_result_8 : decode cX4_result 8 = .ok (.ifCond .ne 6, 3) := by decide +kernel
theorem dX4_result_11 : decode cX4_result 11 = .ok (.bipush (-101), 2) := by decide +kernel
theorem dX4_result_13 : decode cX4_result 13 = .ok (.ireturn, 1) := by decide +kernel
theorem dX4_result_14 : decode cX4_result 14 = .ok (.aload_n 0, 1) := by decide +kernel
theorem dX4_result_15 : decode cX4_result 15 = .ok (.getfield 10, 3) := by decide +kernel
theorem dX4_result_18 : decode cX4_result 18 = .ok (.iload_n 1, 1) := by decide +kernel
theorem dX4_result_19 : decode cX4_result 19 = .ok (.aload_n 0, 1) := by decide +kernel
theorem dX4_result_20 : decode cX4_result 20 = .ok (.getfield 10, 3) := by decide +kernel
theorem dX4_result_23 : decode cX4_result 23 = .ok (.iload_n 1, 1) := by decide +kernel
theorem dX4_result_24 : decode cX4_result 24 = .ok (.invokevirtual 87, 3) := by decide +kernel
theorem dX4_result_27 : decode cX4_result 27 = .ok (.invokevirtual 90, 3) := by decide +kernel
theorem dX4_result_30 : decode cX4_result 30 = .ok (.ireturn, 1) := by decide +kernel
theorem dX4_gain_0 : decode cX4_gain 0 = .ok (.aload_n 0, 1) := by decide +kernel
theorem dX4_gain_1 : decode cX4_gain 1 = .ok (.getfield 10, 3) := by decide +kernel
theorem dX4_gain_4 : decode cX4_gain 4 = .ok (.iload_n 1, 1) := by decide +kernel
theorem dX4_gain_5 : decode cX4_gain 5 = .ok (.invokevirtual 62, 3) := by decide +kernel
theorem dX4_gain_8 : decode cX4_gain 8 = .ok (.ifCond .ne 6, 3) := by decide +kernel
theorem dX4_gain_11 : decode cX4_gain 11 = .ok (.ldc 94, 2) := by decide +kernel
theorem dX4_gain_13 : decode cX4_gain 13 = .ok (.ireturn, 1) := by decide +kernel
theorem dX4_gain_14 : decode cX4_gain 14 = .ok (.aload_n 0, 1) := by decide +kernel
theorem dX4_gain_15 : decode cX4_gain 15 = .ok (.getfield 10, 3) := by decide +kernel
theorem dX4_gain_18 : decode cX4_gain 18 = .ok (.iload_n 1, 1) := by decide +kernel
theorem dX4_gain_19 : decode cX4_gain 19 = .ok (.invokevirtual 95, 3) := by decide +kernel
theorem dX4_gain_22 : decode cX4_gain 22 = .ok (.ireturn, 1) := by decide +kernel
theorem dX4_swings_0 : decode cX4_swings 0 = .ok (.aload_n 0, 1) := by decide +kernel
theorem dX4_swings_1 : decode cX4_swings 1 = .ok (.getfield 10, 3) := by decide +kernel
theorem dX4_swings_4 : decode cX4_swings 4 = .ok (.iload_n 1, 1) := by decide +kernel
theorem dX4_swings_5 : decode cX4_swings 5 = .ok (.invokevirtual 62, 3) := by decide +kernel
theorem dX4_swings_8 : decode cX4_swings 8 = .ok (.ifCond .ne 6, 3) := by decide +kernel
theorem dX4_swings_11 : decode cX4_swings 11 = .ok (.bipush (-101), 2) := by decide +kernel
theorem dX4_swings_13 : decode cX4_swings 13 = .ok (.ireturn, 1) := by decide +kernel
theorem dX4_swings_14 : decode cX4_swings 14 = .ok (.aload_n 0, 1) := by decide +kernel
theorem dX4_swings_15 : decode cX4_swings 15 = .ok (.getfield 10, 3) := by decide +kernel
theorem dX4_swings_18 : decode cX4_swings 18 = .ok (.iload_n 1, 1) := by decide +kernel
theorem dX4_swings_19 : decode cX4_swings 19 = .ok (.invokevirtual 98, 3) := by decide +kernel
theorem dX4_swings_22 : decode cX4_swings 22 = .ok (.ireturn, 1) := by decide +kernel
theorem dX4_best_0 : decode cX4_best 0 = .ok (.aload_n 0, 1) := by decide +kernel
theorem dX4_best_1 : decode cX4_best 1 = .ok (.getfield 10, 3) := by decide +kernel
theorem dX4_best_4 : decode cX4_best 4 = .ok (.iload_n 1, 1) := by decide +kernel
theorem dX4_best_5 : decode cX4_best 5 = .ok (.invokevirtual 62, 3) := by decide +kernel
theorem dX4_best_8 : decode cX4_best 8 = .ok (.ifCond .ne 6, 3) := by decide +kernel
theorem dX4_best_11 : decode cX4_best 11 = .ok (.ldc 94, 2) := by decide +kernel
theorem dX4_best_13 : decode cX4_best 13 = .ok (.ireturn, 1) := by decide +kernel
theorem dX4_best_14 : decode cX4_best 14 = .ok (.aload_n 0, 1) := by decide +kernel
theorem dX4_best_15 : decode cX4_best 15 = .ok (.getfield 21, 3) := by decide +kernel
theorem dX4_best_18 : decode cX4_best 18 = .ok (.iload_n 1, 1) := by decide +kernel
theorem dX4_best_19 : decode cX4_best 19 = .ok (.invokevirtual 101, 3) := by decide +kernel
theorem dX4_best_22 : decode cX4_best 22 = .ok (.aload_n 0, 1) := by decide +kernel
theorem dX4_best_23 : decode cX4_best 23 = .ok (.getfield 21, 3) := by decide +kernel
theorem dX4_best_26 : decode cX4_best 26 = .ok (.getfield 105, 3) := by decide +kernel
theorem dX4_best_29 : decode cX4_best 29 = .ok (.ireturn, 1) := by decide +kernel
theorem dX4_answer_0 : decode cX4_answer 0 = .ok (.aload_n 0, 1) := by decide +kernel
theorem dX4_answer_1 : decode cX4_answer 1 = .ok (.getfield 10, 3) := by decide +kernel
theorem dX4_answer_4 : decode cX4_answer 4 = .ok (.iload_n 1, 1) := by decide +kernel
theorem dX4_answer_5 : decode cX4_answer 5 = .ok (.invokevirtual 62, 3) := by decide +kernel
theorem dX4_answer_8 : decode cX4_answer 8 = .ok (.ifCond .eq 14, 3) := by decide +kernel
theorem dX4_answer_11 : decode cX4_answer 11 = .ok (.aload_n 0, 1) := by decide +kernel
theorem dX4_answer_12 : decode cX4_answer 12 = .ok (.getfield 10, 3) := by decide +kernel
theorem dX4_answer_15 : decode cX4_answer 15 = .ok (.iload_n 2, 1) := by decide +kernel
theorem dX4_answer_16 : decode cX4_answer 16 = .ok (.invokevirtual 66, 3) := by decide +kernel
theorem dX4_answer_19 : decode cX4_answer 19 = .ok (.ifCond .ne 7, 3) := by decide +kernel
theorem dX4_answer_22 : decode cX4_answer 22 = .ok (.sipush (-2000), 3) := by decide +kernel
theorem dX4_answer_25 : decode cX4_answer 25 = .ok (.ireturn, 1) := by decide +kernel
theorem dX4_answer_26 : decode cX4_answer 26 = .ok (.aload_n 0, 1) := by decide +kernel
theorem dX4_answer_27 : decode cX4_answer 27 = .ok (.getfield 21, 3) := by decide +kernel
theorem dX4_answer_30 : decode cX4_answer 30 = .ok (.iload_n 1, 1) := by decide +kernel
theorem dX4_answer_31 : decode cX4_answer 31 = .ok (.invokevirtual 101, 3) := by decide +kernel
theorem dX4_answer_34 : decode cX4_answer 34 = .ok (.aload_n 0, 1) := by decide +kernel
theorem dX4_answer_35 : decode cX4_answer 35 = .ok (.getfield 21, 3) := by decide +kernel
theorem dX4_answer_38 : decode cX4_answer 38 = .ok (.getfield 108, 3) := by decide +kernel
theorem dX4_answer_41 : decode cX4_answer 41 = .ok (.iload_n 2, 1) := by decide +kernel
theorem dX4_answer_42 : decode cX4_answer 42 = .ok (.iaload, 1) := by decide +kernel
theorem dX4_answer_43 : decode cX4_answer 43 = .ok (.ireturn, 1) := by decide +kernel
theorem dX4_take_0 : decode cX4_take 0 = .ok (.aload_n 0, 1) := by decide +kernel
theorem dX4_take_1 : decode cX4_take 1 = .ok (.getfield 10, 3) := by decide +kernel
theorem dX4_take_4 : decode cX4_take 4 = .ok (.iload_n 1, 1) := by decide +kernel
theorem dX4_take_5 : decode cX4_take 5 = .ok (.invokevirtual 62, 3) := by decide +kernel
theorem dX4_take_8 : decode cX4_take 8 = .ok (.ifCond .ne 6, 3) := by decide +kernel
theorem dX4_take_11 : decode cX4_take 11 = .ok (.bipush (-101), 2) := by decide +kernel
theorem dX4_take_13 : decode cX4_take 13 = .ok (.ireturn, 1) := by decide +kernel
theorem dX4_take_14 : decode cX4_take 14 = .ok (.aload_n 0, 1) := by decide +kernel
theorem dX4_take_15 : decode cX4_take 15 = .ok (.getfield 10, 3) := by decide +kernel
theorem dX4_take_18 : decode cX4_take 18 = .ok (.getfield 83, 3) := by decide +kernel
theorem dX4_take_21 : decode cX4_take 21 = .ok (.iload_n 1, 1) := by decide +kernel
theorem dX4_take_22 : decode cX4_take 22 = .ok (.baload, 1) := by decide +kernel
theorem dX4_take_23 : decode cX4_take 23 = .ok (.ifCond .ne 6, 3) := by decide +kernel
theorem dX4_take_26 : decode cX4_take 26 = .ok (.bipush (-103), 2) := by decide +kernel
theorem dX4_take_28 : decode cX4_take 28 = .ok (.ireturn, 1) := by decide +kernel
theorem dX4_take_29 : decode cX4_take 29 = .ok (.aload_n 0, 1) := by decide +kernel
theorem dX4_take_30 : decode cX4_take 30 = .ok (.getfield 21, 3) := by decide +kernel
theorem dX4_take_33 : decode cX4_take 33 = .ok (.iload_n 1, 1) := by decide +kernel
theorem dX4_take_34 : decode cX4_take 34 = .ok (.invokevirtual 101, 3) := by decide +kernel
theorem dX4_take_37 : decode cX4_take 37 = .ok (.aload_n 0, 1) := by decide +kernel
theorem dX4_take_38 : decode cX4_take 38 = .ok (.getfield 21, 3) := by decide +kernel
theorem dX4_take_41 : decode cX4_take 41 = .ok (.iload_n 1, 1) := by decide +kernel
theorem dX4_take_42 : decode cX4_take 42 = .ok (.invokevirtual 111, 3) := by decide +kernel
theorem dX4_take_45 : decode cX4_take 45 = .ok (.aload_n 0, 1) := by decide +kernel
theorem dX4_take_46 : decode cX4_take 46 = .ok (.getfield 10, 3) := by decide +kernel
theorem dX4_take_49 : decode cX4_take 49 = .ok (.iload_n 1, 1) := by decide +kernel
theorem dX4_take_50 : decode cX4_take 50 = .ok (.invokevirtual 73, 3) := by decide +kernel
theorem dX4_take_53 : decode cX4_take 53 = .ok (.ireturn, 1) := by decide +kernel
theorem dX4_play_0 : decode cX4_play 0 = .ok (.iload_n 1, 1) := by decide +kernel
theorem dX4_play_1 : decode cX4_play 1 = .ok (.iconst 1, 1) := by decide +kernel
theorem dX4_play_2 : decode cX4_play 2 = .ok (.bipush 30, 2) := by decide +kernel
theorem dX4_play_4 : decode cX4_play 4 = .ok (.invokestatic 41, 3) := by decide +kernel
theorem dX4_play_7 : decode cX4_play 7 = .ok (.ifCond .ne 6, 3) := by decide +kernel
theorem dX4_play_10 : decode cX4_play 10 = .ok (.bipush (-102), 2) := by decide +kernel
theorem dX4_play_12 : decode cX4_play 12 = .ok (.ireturn, 1) := by decide +kernel
theorem dX4_play_13 : decode cX4_play 13 = .ok (.aload_n 0, 1) := by decide +kernel
theorem dX4_play_14 : decode cX4_play 14 = .ok (.getfield 30, 3) := by decide +kernel
theorem dX4_play_17 : decode cX4_play 17 = .ok (.iload_n 1, 1) := by decide +kernel
theorem dX4_play_18 : decode cX4_play 18 = .ok (.invokevirtual 114, 3) := by decide +kernel
theorem dX4_play_21 : decode cX4_play 21 = .ok (.ireturn, 1) := by decide +kernel
theorem dX4_ended_0 : decode cX4_ended 0 = .ok (.aload_n 0, 1) := by decide +kernel
theorem dX4_ended_1 : decode cX4_ended 1 = .ok (.getfield 30, 3) := by decide +kernel
theorem dX4_ended_4 : decode cX4_ended 4 = .ok (.getfield 117, 3) := by decide +kernel
theorem dX4_ended_7 : decode cX4_ended 7 = .ok (.ireturn, 1) := by decide +kernel
theorem dX4_ring_0 : decode cX4_ring 0 = .ok (.aload_n 0, 1) := by decide +kernel
theorem dX4_ring_1 : decode cX4_ring 1 = .ok (.getfield 30, 3) := by decide +kernel
theorem dX4_ring_4 : decode cX4_ring 4 = .ok (.getfield 120, 3) := by decide +kernel
theorem dX4_ring_7 : decode cX4_ring 7 = .ok (.ireturn, 1) := by decide +kernel
theorem dX4_gift_0 : decode cX4_gift 0 = .ok (.aload_n 0, 1) := by decide +kernel
theorem dX4_gift_1 : decode cX4_gift 1 = .ok (.getfield 10, 3) := by decide +kernel
theorem dX4_gift_4 : decode cX4_gift 4 = .ok (.iload_n 1, 1) := by decide +kernel
theorem dX4_gift_5 : decode cX4_gift 5 = .ok (.invokevirtual 62, 3) := by decide +kernel
theorem dX4_gift_8 : decode cX4_gift 8 = .ok (.ifCond .eq 14, 3) := by decide +kernel
theorem dX4_gift_11 : decode cX4_gift 11 = .ok (.aload_n 0, 1) := by decide +kernel
theorem dX4_gift_12 : decode cX4_gift 12 = .ok (.getfield 37, 3) := by decide +kernel
theorem dX4_gift_15 : decode cX4_gift 15 = .ok (.iload_n 2, 1) := by decide +kernel
theorem dX4_gift_16 : decode cX4_gift 16 = .ok (.invokevirtual 123, 3) := by decide +kernel
theorem dX4_gift_19 : decode cX4_gift 19 = .ok (.ifCond .ne 6, 3) := by decide +kernel
theorem dX4_gift_22 : decode cX4_gift 22 = .ok (.bipush (-101), 2) := by decide +kernel
theorem dX4_gift_24 : decode cX4_gift 24 = .ok (.ireturn, 1) := by decide +kernel
theorem dX4_gift_25 : decode cX4_gift 25 = .ok (.iload_n 3, 1) := by decide +kernel
theorem dX4_gift_26 : decode cX4_gift 26 = .ok (.iconst 0, 1) := by decide +kernel
theorem dX4_gift_27 : decode cX4_gift 27 = .ok (.ldc 126, 2) := by decide +kernel
theorem dX4_gift_29 : decode cX4_gift 29 = .ok (.invokestatic 41, 3) := by decide +kernel
theorem dX4_gift_32 : decode cX4_gift 32 = .ok (.ifCond .ne 6, 3) := by decide +kernel
theorem dX4_gift_35 : decode cX4_gift 35 = .ok (.bipush (-102), 2) := by decide +kernel
theorem dX4_gift_37 : decode cX4_gift 37 = .ok (.ireturn, 1) := by decide +kernel
theorem dX4_gift_38 : decode cX4_gift 38 = .ok (.aload_n 0, 1) := by decide +kernel
theorem dX4_gift_39 : decode cX4_gift 39 = .ok (.getfield 37, 3) := by decide +kernel
theorem dX4_gift_42 : decode cX4_gift 42 = .ok (.getfield 127, 3) := by decide +kernel
theorem dX4_gift_45 : decode cX4_gift 45 = .ok (.iload_n 1, 1) := by decide +kernel
theorem dX4_gift_46 : decode cX4_gift 46 = .ok (.aaload, 1) := by decide +kernel
theorem dX4_gift_47 : decode cX4_gift 47 = .ok (.iload_n 2, 1) := by decide +kernel
theorem dX4_gift_48 : decode cX4_gift 48 = .ok (.iaload, 1) := by decide +kernel
theorem dX4_gift_49 : decode cX4_gift 49 = .ok (.istore 4, 2) := by decide +kernel
theorem dX4_gift_51 : decode cX4_gift 51 = .ok (.aload_n 0, 1) := by decide +kernel
theorem dX4_gift_52 : decode cX4_gift 52 = .ok (.getfield 37, 3) := by decide +kernel
theorem dX4_gift_55 : decode cX4_gift 55 = .ok (.getfield 127, 3) := by decide +kernel
theorem dX4_gift_58 : decode cX4_gift 58 = .ok (.iload_n 1, 1) := by decide +kernel
theorem dX4_gift_59 : decode cX4_gift 59 = .ok (.aaload, 1) := by decide +kernel
theorem dX4_gift_60 : decode cX4_gift 60 = .ok (.iload_n 2, 1) := by decide +kernel
theorem dX4_gift_61 : decode cX4_gift 61 = .ok (.iload_n 3, 1) := by decide +kernel
theorem dX4_gift_62 : decode cX4_gift 62 = .ok (.iastore, 1) := by decide +kernel
theorem dX4_gift_63 : decode cX4_gift 63 = .ok (.iload 4, 2) := by decide +kernel
theorem dX4_gift_65 : decode cX4_gift 65 = .ok (.ireturn, 1) := by decide +kernel
theorem dX4_bond_0 : decode cX4_bond 0 = .ok (.aload_n 0, 1) := by decide +kernel
theorem dX4_bond_1 : decode cX4_bond 1 = .ok (.getfield 10, 3) := by decide +kernel
theorem dX4_bond_4 : decode cX4_bond 4 = .ok (.iload_n 1, 1) := by decide +kernel
theorem dX4_bond_5 : decode cX4_bond 5 = .ok (.invokevirtual 62, 3) := by decide +kernel
theorem dX4_bond_8 : decode cX4_bond 8 = .ok (.ifCond .eq 14, 3) := by decide +kernel
theorem dX4_bond_11 : decode cX4_bond 11 = .ok (.aload_n 0, 1) := by decide +kernel
theorem dX4_bond_12 : decode cX4_bond 12 = .ok (.getfield 10, 3) := by decide +kernel
theorem dX4_bond_15 : decode cX4_bond 15 = .ok (.iload_n 2, 1) := by decide +kernel
theorem dX4_bond_16 : decode cX4_bond 16 = .ok (.invokevirtual 62, 3) := by decide +kernel
theorem dX4_bond_19 : decode cX4_bond 19 = .ok (.ifCond .ne 6, 3) := by decide +kernel
theorem dX4_bond_22 : decode cX4_bond 22 = .ok (.bipush (-101), 2) := by decide +kernel
theorem dX4_bond_24 : decode cX4_bond 24 = .ok (.ireturn, 1) := by decide +kernel
theorem dX4_bond_25 : decode cX4_bond 25 = .ok (.iload_n 1, 1) := by decide +kernel
theorem dX4_bond_26 : decode cX4_bond 26 = .ok (.iload_n 2, 1) := by decide +kernel
theorem dX4_bond_27 : decode cX4_bond 27 = .ok (.if_icmp .eq 14, 3) := by decide +kernel
theorem dX4_bond_30 : decode cX4_bond 30 = .ok (.iload_n 3, 1) := by decide +kernel
theorem dX4_bond_31 : decode cX4_bond 31 = .ok (.iconst 0, 1) := by decide +kernel
theorem dX4_bond_32 : decode cX4_bond 32 = .ok (.sipush 1000, 3) := by decide +kernel
theorem dX4_bond_35 : decode cX4_bond 35 = .ok (.invokestatic 41, 3) := by decide +kernel
theorem dX4_bond_38 : decode cX4_bond 38 = .ok (.ifCond .ne 6, 3) := by decide +kernel
theorem dX4_bond_41 : decode cX4_bond 41 = .ok (.bipush (-102), 2) := by decide +kernel
theorem dX4_bond_43 : decode cX4_bond 43 = .ok (.ireturn, 1) := by decide +kernel
theorem dX4_bond_44 : decode cX4_bond 44 = .ok (.aload_n 0, 1) := by decide +kernel
theorem dX4_bond_45 : decode cX4_bond 45 = .ok (.getfield 37, 3) := by decide +kernel
theorem dX4_bond_48 : decode cX4_bond 48 = .ok (.getfield 130, 3) := by decide +kernel
theorem dX4_bond_51 : decode cX4_bond 51 = .ok (.iload_n 1, 1) := by decide +kernel
theorem dX4_bond_52 : decode cX4_bond 52 = .ok (.aaload, 1) := by decide +kernel
theorem dX4_bond_53 : decode cX4_bond 53 = .ok (.iload_n 2, 1) := by decide +kernel
theorem dX4_bond_54 : decode cX4_bond 54 = .ok (.iaload, 1) := by decide +kernel
theorem dX4_bond_55 : decode cX4_bond 55 = .ok (.istore 4, 2) := by decide +kernel
theorem dX4_bond_57 : decode cX4_bond 57 = .ok (.aload_n 0, 1) := by decide +kernel
theorem dX4_bond_58 : decode cX4_bond 58 = .ok (.getfield 37, 3) := by decide +kernel
theorem dX4_bond_61 : decode cX4_bond 61 = .ok (.getfield 130, 3) := by decide +kernel
theorem dX4_bond_64 : decode cX4_bond 64 = .ok (.iload_n 1, 1) := by decide +kernel
theorem dX4_bond_65 : decode cX4_bond 65 = .ok (.aaload, 1) := by decide +kernel
theorem dX4_bond_66 : decode cX4_bond 66 = .ok (.iload_n 2, 1) := by decide +kernel
theorem dX4_bond_67 : decode cX4_bond 67 = .ok (.iload_n 3, 1) := by decide +kernel
theorem dX4_bond_68 : decode cX4_bond 68 = .ok (.iastore, 1) := by decide +kernel
theorem dX4_bond_69 : decode cX4_bond 69 = .ok (.aload_n 0, 1) := by decide +kernel
theorem dX4_bond_70 : decode cX4_bond 70 = .ok (.getfield 37, 3) := by decide +kernel
theorem dX4_bond_73 : decode cX4_bond 73 = .ok (.getfield 130, 3) := by decide +kernel
theorem dX4_bond_76 : decode cX4_bond 76 = .ok (.iload_n 2, 1) := by decide +kernel
theorem dX4_bond_77 : decode cX4_bond 77 = .ok (.aaload, 1) := by decide +kernel
theorem dX4_bond_78 : decode cX4_bond 78 = .ok (.iload_n 1, 1) := by decide +kernel
theorem dX4_bond_79 : decode cX4_bond 79 = .ok (.iload_n 3, 1) := by decide +kernel
theorem dX4_bond_80 : decode cX4_bond 80 = .ok (.iastore, 1) := by decide +kernel
theorem dX4_bond_81 : decode cX4_bond 81 = .ok (.iload 4, 2) := by decide +kernel
theorem dX4_bond_83 : decode cX4_bond 83 = .ok (.ireturn, 1) := by decide +kernel
theorem dX4_matched_0 : decode cX4_matched 0 = .ok (.aload_n 0, 1) := by decide +kernel
theorem dX4_matched_1 : decode cX4_matched 1 = .ok (.getfield 37, 3) := by decide +kernel
theorem dX4_matched_4 : decode cX4_matched 4 = .ok (.iload_n 1, 1) := by decide +kernel
theorem dX4_matched_5 : decode cX4_matched 5 = .ok (.invokevirtual 123, 3) := by decide +kernel
theorem dX4_matched_8 : decode cX4_matched 8 = .ok (.ifCond .ne 7, 3) := by decide +kernel
theorem dX4_matched_11 : decode cX4_matched 11 = .ok (.ldc2_w 133, 3) := by decide +kernel
theorem dX4_matched_14 : decode cX4_matched 14 = .ok (.lreturn, 1) := by decide +kernel
theorem dX4_matched_15 : decode cX4_matched 15 = .ok (.iload_n 2, 1) := by decide +kernel
theorem dX4_matched_16 : decode cX4_matched 16 = .ok (.iconst 0, 1) := by decide +kernel
theorem dX4_matched_17 : decode cX4_matched 17 = .ok (.iconst 1, 1) := by decide +kernel
theorem dX4_matched_18 : decode cX4_matched 18 = .ok (.invokestatic 41, 3) := by decide +kernel
theorem dX4_matched_21 : decode cX4_matched 21 = .ok (.ifCond .ne 7, 3) := by decide +kernel
theorem dX4_matched_24 : decode cX4_matched 24 = .ok (.ldc2_w 135, 3) := by decide +kernel
theorem dX4_matched_27 : decode cX4_matched 27 = .ok (.lreturn, 1) := by decide +kernel
theorem dX4_matched_28 : decode cX4_matched 28 = .ok (.iload_n 2, 1) := by decide +kernel
theorem dX4_matched_29 : decode cX4_matched 29 = .ok (.ifCond .ne 14, 3) := by decide +kernel
theorem dX4_matched_32 : decode cX4_matched 32 = .ok (.aload_n 0, 1) := by decide +kernel
theorem dX4_matched_33 : decode cX4_matched 33 = .ok (.getfield 37, 3) := by decide +kernel
theorem dX4_matched_36 : decode cX4_matched 36 = .ok (.iload_n 1, 1) := by decide +kernel
theorem dX4_matched_37 : decode cX4_matched 37 = .ok (.invokevirtual 137, 3) := by decide +kernel
theorem dX4_matched_40 : decode cX4_matched 40 = .ok (.goto 11, 3) := by decide +kernel
theorem dX4_matched_43 : decode cX4_matched 43 = .ok (.aload_n 0, 1) := by decide +kernel
theorem dX4_matched_44 : decode cX4_matched 44 = .ok (.getfield 37, 3) := by decide +kernel
theorem dX4_matched_47 : decode cX4_matched 47 = .ok (.iload_n 1, 1) := by decide +kernel
theorem dX4_matched_48 : decode cX4_matched 48 = .ok (.invokevirtual 141, 3) := by decide +kernel
theorem dX4_matched_51 : decode cX4_matched 51 = .ok (.lreturn, 1) := by decide +kernel
theorem dX4_share_0 : decode cX4_share 0 = .ok (.aload_n 0, 1) := by decide +kernel
theorem dX4_share_1 : decode cX4_share 1 = .ok (.getfield 37, 3) := by decide +kernel
theorem dX4_share_4 : decode cX4_share 4 = .ok (.iload_n 1, 1) := by decide +kernel
theorem dX4_share_5 : decode cX4_share 5 = .ok (.invokevirtual 123, 3) := by decide +kernel
theorem dX4_share_8 : decode cX4_share 8 = .ok (.ifCond .ne 7, 3) := by decide +kernel
theorem dX4_share_11 : decode cX4_share 11 = .ok (.ldc2_w 133, 3) := by decide +kernel
theorem dX4_share_14 : decode cX4_share 14 = .ok (.lreturn, 1) := by decide +kernel
theorem dX4_share_15 : decode cX4_share 15 = .ok (.lload_n 2, 1) := by decide +kernel
theorem dX4_share_16 : decode cX4_share 16 = .ok (.lconst 0, 1) := by decide +kernel
theorem dX4_share_17 : decode cX4_share 17 = .ok (.lcmp, 1) := by decide +kernel
theorem dX4_share_18 : decode cX4_share 18 = .ok (.ifCond .lt 11, 3) := by decide +kernel
theorem dX4_share_21 : decode cX4_share 21 = .ok (.lload_n 2, 1) := by decide +kernel
theorem dX4_share_22 : decode cX4_share 22 = .ok (.ldc2_w 144, 3) := by decide +kernel
theorem dX4_share_25 : decode cX4_share 25 = .ok (.lcmp, 1) := by decide +kernel
theorem dX4_share_26 : decode cX4_share 26 = .ok (.ifCond .le 7, 3) := by decide +kernel
theorem dX4_share_29 : decode cX4_share 29 = .ok (.ldc2_w 135, 3) := by decide +kernel
theorem dX4_share_32 : decode cX4_share 32 = .ok (.lreturn, 1) := by decide +kernel
theorem dX4_share_33 : decode cX4_share 33 = .ok (.aload_n 0, 1) := by decide +kernel
theorem dX4_share_34 : decode cX4_share 34 = .ok (.getfield 37, 3) := by decide +kernel
theorem dX4_share_37 : decode cX4_share 37 = .ok (.iload_n 1, 1) := by decide +kernel
theorem dX4_share_38 : decode cX4_share 38 = .ok (.lload_n 2, 1) := by decide +kernel
theorem dX4_share_39 : decode cX4_share 39 = .ok (.invokevirtual 146, 3) := by decide +kernel
theorem dX4_share_42 : decode cX4_share 42 = .ok (.lreturn, 1) := by decide +kernel
theorem dX4_damped_0 : decode cX4_damped 0 = .ok (.aload_n 0, 1) := by decide +kernel
theorem dX4_damped_1 : decode cX4_damped 1 = .ok (.getfield 37, 3) := by decide +kernel
theorem dX4_damped_4 : decode cX4_damped 4 = .ok (.iload_n 1, 1) := by decide +kernel
theorem dX4_damped_5 : decode cX4_damped 5 = .ok (.invokevirtual 123, 3) := by decide +kernel
theorem dX4_damped_8 : decode cX4_damped 8 = .ok (.ifCond .ne 7, 3) := by decide +kernel
theorem dX4_damped_11 : decode cX4_damped 11 = .ok (.ldc2_w 133, 3) := by decide +kernel
theorem dX4_damped_14 : decode cX4_damped 14 = .ok (.lreturn, 1) := by decide +kernel
theorem dX4_damped_15 : decode cX4_damped 15 = .ok (.aload_n 0, 1) := by decide +kernel
theorem dX4_damped_16 : decode cX4_damped 16 = .ok (.getfield 37, 3) := by decide +kernel
theorem dX4_damped_19 : decode cX4_damped 19 = .ok (.iload_n 1, 1) := by decide +kernel
theorem dX4_damped_20 : decode cX4_damped 20 = .ok (.invokevirtual 150, 3) := by decide +kernel
theorem dX4_damped_23 : decode cX4_damped 23 = .ok (.aload_n 0, 1) := by decide +kernel
theorem dX4_damped_24 : decode cX4_damped 24 = .ok (.getfield 37, 3) := by decide +kernel
theorem dX4_damped_27 : decode cX4_damped 27 = .ok (.iload_n 1, 1) := by decide +kernel
theorem dX4_damped_28 : decode cX4_damped 28 = .ok (.invokevirtual 137, 3) := by decide +kernel
theorem dX4_damped_31 : decode cX4_damped 31 = .ok (.lsub, 1) := by decide +kernel
theorem dX4_damped_32 : decode cX4_damped 32 = .ok (.lreturn, 1) := by decide +kernel
theorem dX4_likeness_0 : decode cX4_likeness 0 = .ok (.aload_n 0, 1) := by decide +kernel
theorem dX4_likeness_1 : decode cX4_likeness 1 = .ok (.getfield 10, 3) := by decide +kernel
theorem dX4_likeness_4 : decode cX4_likeness 4 = .ok (.iload_n 1, 1) := by decide +kernel
theorem dX4_likeness_5 : decode cX4_likeness 5 = .ok (.invokevirtual 62, 3) := by decide +kernel
theorem dX4_likeness_8 : decode cX4_likeness 8 = .ok (.ifCond .eq 14, 3) := by decide +kernel
theorem dX4_likeness_11 : decode cX4_likeness 11 = .ok (.aload_n 0, 1) := by decide +kernel
theorem dX4_likeness_12 : decode cX4_likeness 12 = .ok (.getfield 10, 3) := by decide +kernel
theorem dX4_likeness_15 : decode cX4_likeness 15 = .ok (.iload_n 2, 1) := by decide +kernel
theorem dX4_likeness_16 : decode cX4_likeness 16 = .ok (.invokevirtual 62, 3) := by decide +kernel
theorem dX4_likeness_19 : decode cX4_likeness 19 = .ok (.ifCond .ne 7, 3) := by decide +kernel
theorem dX4_likeness_22 : decode cX4_likeness 22 = .ok (.sipush (-2001), 3) := by decide +kernel
theorem dX4_likeness_25 : decode cX4_likeness 25 = .ok (.ireturn, 1) := by decide +kernel
theorem dX4_likeness_26 : decode cX4_likeness 26 = .ok (.aload_n 0, 1) := by decide +kernel
theorem dX4_likeness_27 : decode cX4_likeness 27 = .ok (.getfield 10, 3) := by decide +kernel
theorem dX4_likeness_30 : decode cX4_likeness 30 = .ok (.iload_n 1, 1) := by decide +kernel
theorem dX4_likeness_31 : decode cX4_likeness 31 = .ok (.iload_n 2, 1) := by decide +kernel
theorem dX4_likeness_32 : decode cX4_likeness 32 = .ok (.invokevirtual 153, 3) := by decide +kernel
theorem dX4_likeness_35 : decode cX4_likeness 35 = .ok (.ireturn, 1) := by decide +kernel
theorem dX4_group_0 : decode cX4_group 0 = .ok (.aload_n 0, 1) := by decide +kernel
theorem dX4_group_1 : decode cX4_group 1 = .ok (.getfield 10, 3) := by decide +kernel
theorem dX4_group_4 : decode cX4_group 4 = .ok (.iload_n 1, 1) := by decide +kernel
theorem dX4_group_5 : decode cX4_group 5 = .ok (.invokevirtual 62, 3) := by decide +kernel
theorem dX4_group_8 : decode cX4_group 8 = .ok (.ifCond .ne 6, 3) := by decide +kernel
theorem dX4_group_11 : decode cX4_group 11 = .ok (.bipush (-101), 2) := by decide +kernel
theorem dX4_group_13 : decode cX4_group 13 = .ok (.ireturn, 1) := by decide +kernel
theorem dX4_group_14 : decode cX4_group 14 = .ok (.iload_n 2, 1) := by decide +kernel
theorem dX4_group_15 : decode cX4_group 15 = .ok (.iconst 1, 1) := by decide +kernel
theorem dX4_group_16 : decode cX4_group 16 = .ok (.sipush 1000, 3) := by decide +kernel
theorem dX4_group_19 : decode cX4_group 19 = .ok (.invokestatic 41, 3) := by decide +kernel
theorem dX4_group_22 : decode cX4_group 22 = .ok (.ifCond .ne 6, 3) := by decide +kernel
theorem dX4_group_25 : decode cX4_group 25 = .ok (.bipush (-102), 2) := by decide +kernel
theorem dX4_group_27 : decode cX4_group 27 = .ok (.ireturn, 1) := by decide +kernel
theorem dX4_group_28 : decode cX4_group 28 = .ok (.aload_n 0, 1) := by decide +kernel
theorem dX4_group_29 : decode cX4_group 29 = .ok (.getfield 10, 3) := by decide +kernel
theorem dX4_group_32 : decode cX4_group 32 = .ok (.iload_n 1, 1) := by decide +kernel
theorem dX4_group_33 : decode cX4_group 33 = .ok (.iload_n 2, 1) := by decide +kernel
theorem dX4_group_34 : decode cX4_group 34 = .ok (.invokevirtual 156, 3) := by decide +kernel
theorem dX4_group_37 : decode cX4_group 37 = .ok (.ireturn, 1) := by decide +kernel
theorem dX4_count_0 : decode cX4_count 0 = .ok (.iload_n 1, 1) := by decide +kernel
theorem dX4_count_1 : decode cX4_count 1 = .ok (.tableswitch 87 0 5 #[39, 47, 55, 63, 71, 79], 39) := by decide +kernel
theorem dX4_count_40 : decode cX4_count 40 = .ok (.aload_n 0, 1) := by decide +kernel
theorem dX4_count_41 : decode cX4_count 41 = .ok (.getfield 10, 3) := by decide +kernel
theorem dX4_count_44 : decode cX4_count 44 = .ok (.getfield 45, 3) := by decide +kernel
theorem dX4_count_47 : decode cX4_count 47 = .ok (.ireturn, 1) := by decide +kernel
theorem dX4_count_48 : decode cX4_count 48 = .ok (.aload_n 0, 1) := by decide +kernel
theorem dX4_count_49 : decode cX4_count 49 = .ok (.getfield 10, 3) := by decide +kernel
theorem dX4_count_52 : decode cX4_count 52 = .ok (.getfield 53, 3) := by decide +kernel
theorem dX4_count_55 : decode cX4_count 55 = .ok (.ireturn, 1) := by decide +kernel
theorem dX4_count_56 : decode cX4_count 56 = .ok (.aload_n 0, 1) := by decide +kernel
theorem dX4_count_57 : decode cX4_count 57 = .ok (.getfield 37, 3) := by decide +kernel
theorem dX4_count_60 : decode cX4_count 60 = .ok (.getfield 56, 3) := by decide +kernel
theorem dX4_count_63 : decode cX4_count 63 = .ok (.ireturn, 1) := by decide +kernel
theorem dX4_count_64 : decode cX4_count 64 = .ok (.aload_n 0, 1) := by decide +kernel
theorem dX4_count_65 : decode cX4_count 65 = .ok (.getfield 10, 3) := by decide +kernel
theorem dX4_count_68 : decode cX4_count 68 = .ok (.invokevirtual 159, 3) := by decide +kernel
theorem dX4_count_71 : decode cX4_count 71 = .ok (.ireturn, 1) := by decide +kernel
theorem dX4_count_72 : decode cX4_count 72 = .ok (.aload_n 0, 1) := by decide +kernel
theorem dX4_count_73 : decode cX4_count 73 = .ok (.getfield 30, 3) := by decide +kernel
theorem dX4_count_76 : decode cX4_count 76 = .ok (.getfield 163, 3) := by decide +kernel
theorem dX4_count_79 : decode cX4_count 79 = .ok (.ireturn, 1) := by decide +kernel
theorem dX4_count_80 : decode cX4_count 80 = .ok (.aload_n 0, 1) := by decide +kernel
theorem dX4_count_81 : decode cX4_count 81 = .ok (.getfield 30, 3) := by decide +kernel
theorem dX4_count_84 : decode cX4_count 84 = .ok (.getfield 166, 3) := by decide +kernel
theorem dX4_count_87 : decode cX4_count 87 = .ok (.ireturn, 1) := by decide +kernel
theorem dX4_count_88 : decode cX4_count 88 = .ok (.bipush (-102), 2) := by decide +kernel
theorem dX4_count_90 : decode cX4_count 90 = .ok (.ireturn, 1) := by decide +kernel
theorem dX4_digest_0 : decode cX4_digest 0 = .ok (.ldc2_w 169, 3) := by decide +kernel
theorem dX4_digest_3 : decode cX4_digest 3 = .ok (.lstore_n 1, 1) := by decide +kernel
theorem dX4_digest_4 : decode cX4_digest 4 = .ok (.iconst 0, 1) := by decide +kernel
theorem dX4_digest_5 : decode cX4_digest 5 = .ok (.istore_n 3, 1) := by decide +kernel
theorem dX4_digest_6 : decode cX4_digest 6 = .ok (.iload_n 3, 1) := by decide +kernel
theorem dX4_digest_7 : decode cX4_digest 7 = .ok (.aload_n 0, 1) := by decide +kernel
theorem dX4_digest_8 : decode cX4_digest 8 = .ok (.getfield 10, 3) := by decide +kernel
theorem dX4_digest_11 : decode cX4_digest 11 = .ok (.getfield 45, 3) := by decide +kernel
theorem dX4_digest_14 : decode cX4_digest 14 = .ok (.if_icmp .ge 29, 3) := by decide +kernel
theorem dX4_digest_17 : decode cX4_digest 17 = .ok (.aload_n 0, 1) := by decide +kernel
theorem dX4_digest_18 : decode cX4_digest 18 = .ok (.getfield 10, 3) := by decide +kernel
theorem dX4_digest_21 : decode cX4_digest 21 = .ok (.lload_n 1, 1) := by decide +kernel
theorem dX4_digest_22 : decode cX4_digest 22 = .ok (.iload_n 3, 1) := by decide +kernel
theorem dX4_digest_23 : decode cX4_digest 23 = .ok (.invokevirtual 171, 3) := by decide +kernel
theorem dX4_digest_26 : decode cX4_digest 26 = .ok (.lstore_n 1, 1) := by decide +kernel
theorem dX4_digest_27 : decode cX4_digest 27 = .ok (.aload_n 0, 1) := by decide +kernel
theorem dX4_digest_28 : decode cX4_digest 28 = .ok (.getfield 37, 3) := by decide +kernel
theorem dX4_digest_31 : decode cX4_digest 31 = .ok (.lload_n 1, 1) := by decide +kernel
theorem dX4_digest_32 : decode cX4_digest 32 = .ok (.iload_n 3, 1) := by decide +kernel
theorem dX4_digest_33 : decode cX4_digest 33 = .ok (.invokevirtual 175, 3) := by decide +kernel
theorem dX4_digest_36 : decode cX4_digest 36 = .ok (.lstore_n 1, 1) := by decide +kernel
theorem dX4_digest_37 : decode cX4_digest 37 = .ok (.iinc 3 1, 3) := by decide +kernel
theorem dX4_digest_40 : decode cX4_digest 40 = .ok (.goto (-34), 3) := by decide +kernel
theorem dX4_digest_43 : decode cX4_digest 43 = .ok (.ldc2_w 176, 3) := by decide +kernel
theorem dX4_digest_46 : decode cX4_digest 46 = .ok (.lload_n 1, 1) := by decide +kernel
theorem dX4_digest_47 : decode cX4_digest 47 = .ok (.lmul, 1) := by decide +kernel
theorem dX4_digest_48 : decode cX4_digest 48 = .ok (.aload_n 0, 1) := by decide +kernel
theorem dX4_digest_49 : decode cX4_digest 49 = .ok (.getfield 10, 3) := by decide +kernel
theorem dX4_digest_52 : decode cX4_digest 52 = .ok (.getfield 59, 3) := by decide +kernel
theorem dX4_digest_55 : decode cX4_digest 55 = .ok (.i2l, 1) := by decide +kernel
theorem dX4_digest_56 : decode cX4_digest 56 = .ok (.ladd, 1) := by decide +kernel
theorem dX4_digest_57 : decode cX4_digest 57 = .ok (.lstore_n 1, 1) := by decide +kernel
theorem dX4_digest_58 : decode cX4_digest 58 = .ok (.ldc2_w 176, 3) := by decide +kernel
theorem dX4_digest_61 : decode cX4_digest 61 = .ok (.lload_n 1, 1) := by decide +kernel
theorem dX4_digest_62 : decode cX4_digest 62 = .ok (.lmul, 1) := by decide +kernel
theorem dX4_digest_63 : decode cX4_digest 63 = .ok (.aload_n 0, 1) := by decide +kernel
theorem dX4_digest_64 : decode cX4_digest 64 = .ok (.getfield 30, 3) := by decide +kernel
theorem dX4_digest_67 : decode cX4_digest 67 = .ok (.getfield 163, 3) := by decide +kernel
theorem dX4_digest_70 : decode cX4_digest 70 = .ok (.i2l, 1) := by decide +kernel
theorem dX4_digest_71 : decode cX4_digest 71 = .ok (.ladd, 1) := by decide +kernel
theorem dX4_digest_72 : decode cX4_digest 72 = .ok (.lstore_n 1, 1) := by decide +kernel
theorem dX4_digest_73 : decode cX4_digest 73 = .ok (.ldc2_w 176, 3) := by decide +kernel
theorem dX4_digest_76 : decode cX4_digest 76 = .ok (.lload_n 1, 1) := by decide +kernel
theorem dX4_digest_77 : decode cX4_digest 77 = .ok (.lmul, 1) := by decide +kernel
theorem dX4_digest_78 : decode cX4_digest 78 = .ok (.aload_n 0, 1) := by decide +kernel
theorem dX4_digest_79 : decode cX4_digest 79 = .ok (.getfield 30, 3) := by decide +kernel
theorem dX4_digest_82 : decode cX4_digest 82 = .ok (.getfield 166, 3) := by decide +kernel
theorem dX4_digest_85 : decode cX4_digest 85 = .ok (.i2l, 1) := by decide +kernel
theorem dX4_digest_86 : decode cX4_digest 86 = .ok (.ladd, 1) := by decide +kernel
theorem dX4_digest_87 : decode cX4_digest 87 = .ok (.lreturn, 1) := by decide +kernel
theorem dX4_isWithin_0 : decode cX4_isWithin 0 = .ok (.iload_n 0, 1) := by decide +kernel
theorem dX4_isWithin_1 : decode cX4_isWithin 1 = .ok (.iload_n 1, 1) := by decide +kernel
theorem dX4_isWithin_2 : decode cX4_isWithin 2 = .ok (.if_icmp .lt 12, 3) := by decide +kernel
theorem dX4_isWithin_5 : decode cX4_isWithin 5 = .ok (.iload_n 0, 1) := by decide +kernel
theorem dX4_isWithin_6 : decode cX4_isWithin 6 = .ok (.iload_n 2, 1) := by decide +kernel
theorem dX4_isWithin_7 : decode cX4_isWithin 7 = .ok (.if_icmp .gt 7, 3) := by decide +kernel
theorem dX4_isWithin_10 : decode cX4_isWithin 10 = .ok (.iconst 1, 1) := by decide +kernel
theorem dX4_isWithin_11 : decode cX4_isWithin 11 = .ok (.goto 4, 3) := by decide +kernel
theorem dX4_isWithin_14 : decode cX4_isWithin 14 = .ok (.iconst 0, 1) := by decide +kernel
theorem dX4_isWithin_15 : decode cX4_isWithin 15 = .ok (.ireturn, 1) := by decide +kernel
end
section
theorem dX5_init_0 : decode cX5_init 0 = .ok (.aload_n 0, 1) := by decide +kernel
theorem dX5_init_1 : decode cX5_init 1 = .ok (.invokespecial 1, 3) := by decide +kernel
theorem dX5_init_4 : decode cX5_init 4 = .ok (.aload_n 0, 1) := by decide +kernel
theorem dX5_init_5 : decode cX5_init 5 = .ok (.bipush 12, 2) := by decide +kernel
theorem dX5_init_7 : decode cX5_init 7 = .ok (.newarray .int, 2) := by decide +kernel
theorem dX5_init_9 : decode cX5_init 9 = .ok (.putfield 7, 3) := by decide +kernel
theorem dX5_init_12 : decode cX5_init 12 = .ok (.aload_n 0, 1) := by decide +kernel
theorem dX5_init_13 : decode cX5_init 13 = .ok (.bipush 12, 2) := by decide +kernel
theorem dX5_init_15 : decode cX5_init 15 = .ok (.newarray .boolean, 2) := by decide +kernel
theorem dX5_init_17 : decode cX5_init 17 = .ok (.putfield 13, 3) := by decide +kernel
theorem dX5_init_20 : decode cX5_init 20 = .ok (.aload_n 0, 1) := by decide +kernel
theorem dX5_init_21 : decode cX5_init 21 = .ok (.bipush 72, 2) := by decide +kernel
theorem dX5_init_23 : decode cX5_init 23 = .ok (.newarray .int, 2) := by decide +kernel
theorem dX5_init_25 : decode cX5_init 25 = .ok (.putfield 17, 3) := by decide +kernel
theorem dX5_init_28 : decode cX5_init 28 = .ok (.aload_n 0, 1) := by decide +kernel
theorem dX5_init_29 : decode cX5_init 29 = .ok (.bipush 72, 2) := by decide +kernel
theorem dX5_init_31 : decode cX5_init 31 = .ok (.newarray .int, 2) := by decide +kernel
theorem dX5_init_33 : decode cX5_init 33 = .ok (.putfield 20, 3) := by decide +kernel
theorem dX5_init_36 : decode cX5_init 36 = .ok (.aload_n 0, 1) := by decide +kernel
theorem dX5_init_37 : decode cX5_init 37 = .ok (.bipush 72, 2) := by decide +kernel
theorem dX5_init_39 : decode cX5_init 39 = .ok (.newarray .int, 2) := by decide +kernel
theorem dX5_init_41 : decode cX5_init 41 = .ok (.putfield 23, 3) := by decide +kernel
theorem dX5_init_44 : decode cX5_init 44 = .ok (.aload_n 0, 1) := by decide +kernel
theorem dX5_init_45 : decode cX5_init 45 = .ok (.sipush 144, 3) := by decide +kernel
theorem dX5_init_48 : decode cX5_init 48 = .ok (.newarray .int, 2) := by decide +kernel
theorem dX5_init_50 : decode cX5_init 50 = .ok (.putfield 26, 3) := by decide +kernel
theorem dX5_init_53 : decode cX5_init 53 = .ok (.aload_n 0, 1) := by decide +kernel
theorem dX5_init_54 : decode cX5_init 54 = .ok (.bipush 18, 2) := by decide +kernel
theorem dX5_init_56 : decode cX5_init 56 = .ok (.newarray .int, 2) := by decide +kernel
theorem dX5_init_58 : decode cX5_init 58 = .ok (.putfield 29, 3) := by decide +kernel
theorem dX5_init_61 : decode cX5_init 61 = .ok (.aload_n 0, 1) := by decide +kernel
theorem dX5_init_62 : decode cX5_init 62 = .ok (.bipush 18, 2) := by decide +kernel
theorem dX5_init_64 : decode cX5_init 64 = .ok (.newarray .boolean, 2) := by decide +kernel
theorem dX5_init_66 : decode cX5_init 66 = .ok (.putfield 32, 3) := by decide +kernel
theorem dX5_init_69 : decode cX5_init 69 = .ok (.aload_n 0, 1) := by decide +kernel
theorem dX5_init_70 : decode cX5_init 70 = .ok (.bipush 6, 2) := by decide +kernel
theorem dX5_init_72 : decode cX5_init 72 = .ok (.newarray .int, 2) := by decide +kernel
theorem dX5_init_74 : decode cX5_init 74 = .ok (.putfield 35, 3) := by decide +kernel
theorem dX5_init_77 : decode cX5_init 77 = .ok (.aload_n 0, 1) := by decide +kernel
theorem dX5_init_78 : decode cX5_init 78 = .ok (.bipush 6, 2) := by decide +kernel
theorem dX5_init_80 : decode cX5_init 80 = .ok (.newarray .int, 2) := by decide +kernel
theorem dX5_init_82 : decode cX5_init 82 = .ok (.putfield 38, 3) := by decide +kernel
theorem dX5_init_85 : decode cX5_init 85 = .ok (.aload_n 0, 1) := by decide +kernel
theorem dX5_init_86 : decode cX5_init 86 = .ok (.sipush 2232, 3) := by decide +kernel
theorem dX5_init_89 : decode cX5_init 89 = .ok (.newarray .int, 2) := by decide +kernel
theorem dX5_init_91 : decode cX5_init 91 = .ok (.putfield 41, 3) := by decide +kernel
theorem dX5_init_94 : decode cX5_init 94 = .ok (.aload_n 0, 1) := by decide +kernel
theorem dX5_init_95 : decode cX5_init 95 = .ok (.bipush 6, 2) := by decide +kernel
theorem dX5_init_97 : decode cX5_init 97 = .ok (.newarray .long, 2) := by decide +kernel
theorem dX5_init_99 : decode cX5_init 99 = .ok (.putfield 44, 3) := by decide +kernel
theorem dX5_init_102 : decode cX5_init 102 = .ok (.aload_n 0, 1) := by decide +kernel
theorem dX5_init_103 : decode cX5_init 103 = .ok (.bipush 6, 2) := by decide +kernel
theorem dX5_init_105 : decode cX5_init 105 = .ok (.newarray .long, 2) := by decide +kernel
theorem dX5_init_107 : decode cX5_init 107 = .ok (.putfield 48, 3) := by decide +kernel
theorem dX5_init_110 : decode cX5_init 110 = .ok (.iconst 0, 1) := by decide +kernel
theorem dX5_init_111 : decode cX5_init 111 = .ok (.istore_n 1, 1) := by decide +kernel
theorem dX5_init_112 : decode cX5_init 112 = .ok (.iload_n 1, 1) := by decide +kernel
theorem dX5_init_113 : decode cX5_init 113 = .ok (.sipush 144, 3) := by decide +kernel
theorem dX5_init_116 : decode cX5_init 116 = .ok (.if_icmp .ge 18, 3) := by decide +kernel
theorem dX5_init_119 : decode cX5_init 119 = .ok (.aload_n 0, 1) := by decide +kernel
theorem dX5_init_120 : decode cX5_init 120 = .ok (.getfield 26, 3) := by decide +kernel
theorem dX5_init_123 : decode cX5_init 123 = .ok (.iload_n 1, 1) := by decide +kernel
theorem dX5_init_124 : decode cX5_init 124 = .ok (.sipush 1000, 3) := by decide +kernel
theorem dX5_init_127 : decode cX5_init 127 = .ok (.iastore, 1) := by decide +kernel
theorem dX5_init_128 : decode cX5_init 128 = .ok (.iinc 1 1, 3) := by decide +kernel
theorem dX5_init_131 : decode cX5_init 131 = .ok (.goto (-19), 3) := by decide +kernel
theorem dX5_init_134 : decode cX5_init 134 = .ok (.return_, 1) := by decide +kernel
theorem dX5_in_0 : decode cX5_in 0 = .ok (.iload_n 0, 1) := by decide +kernel
theorem dX5_in_1 : decode cX5_in 1 = .ok (.iload_n 1, 1) := by decide +kernel
theorem dX5_in_2 : decode cX5_in 2 = .ok (.if_icmp .lt 12, 3) := by decide +kernel
theorem dX5_in_5 : decode cX5_in 5 = .ok (.iload_n 0, 1) := by decide +kernel
theorem dX5_in_6 : decode cX5_in 6 = .ok (.iload_n 2, 1) := by decide +kernel
theorem dX5_in_7 : decode cX5_in 7 = .ok (.if_icmp .gt 7, 3) := by decide +kernel
theorem dX5_in_10 : decode cX5_in 10 = .ok (.iconst 1, 1) := by decide +kernel
theorem dX5_in_11 : decode cX5_in 11 = .ok (.goto 4, 3) := by decide +kernel
theorem dX5_in_14 : decode cX5_in 14 = .ok (.iconst 0, 1) := by decide +kernel
theorem dX5_in_15 : decode cX5_in 15 = .ok (.ireturn, 1) := by decide +kernel
theorem dX5_isPerson_0 : decode cX5_isPerson 0 = .ok (.iload_n 1, 1) := by decide +kernel
theorem dX5_isPerson_1 : decode cX5_isPerson 1 = .ok (.iconst 0, 1) := by decide +kernel
theorem dX5_isPerson_2 : decode cX5_isPerson 2 = .ok (.aload_n 0, 1) := by decide +kernel
theorem dX5_isPerson_3 : decode cX5_isPerson 3 = .ok (.getfield 51, 3) := by decide +kernel
theorem dX5_isPerson_6 : decode cX5_isPerson 6 = .ok (.iconst 1, 1) := by decide +kernel
theorem dX5_isPerson_7 : decode cX5_isPerson 7 = .ok (.isub, 1) := by decide +kernel
theorem dX5_isPerson_8 : decode cX5_isPerson 8 = .ok (.invokestatic 55, 3) := by decide +kernel
theorem dX5_isPerson_11 : decode cX5_isPerson 11 = .ok (.ireturn, 1) := by decide +kernel
theorem dX5_isQuestion_0 : decode cX5_isQuestion 0 = .ok (.iload_n 1, 1) := by decide +kernel
theorem dX5_isQuestion_1 : decode cX5_isQuestion 1 = .ok (.iconst 0, 1) := by decide +kernel
theorem dX5_isQuestion_2 : decode cX5_isQuestion 2 = .ok (.aload_n 0, 1) := by decide +kernel
theorem dX5_isQuestion_3 : decode cX5_isQuestion 3 = .ok (.getfield 59, 3) := by decide +kernel
theorem dX5_isQuestion_6 : decode cX5_isQuestion 6 = .ok (.iconst 1, 1) := by decide +kernel
theorem dX5_isQuestion_7 : decode cX5_isQuestion 7 = .ok (.isub, 1) := by decide +kernel
theorem dX5_isQuestion_8 : decode cX5_isQuestion 8 = .ok (.invokestatic 55, 3) := by decide +kernel
theorem dX5_isQuestion_11 : decode cX5_isQuestion 11 = .ok (.ireturn, 1) := by decide +kernel
theorem dX5_isProject_0 : decode cX5_isProject 0 = .ok (.iload_n 1, 1) := by decide +kernel
theorem dX5_isProject_1 : decode cX5_isProject 1 = .ok (.iconst 0, 1) := by decide +kernel
theorem dX5_isProject_2 : decode cX5_isProject 2 = .ok (.aload_n 0, 1) := by decide +kernel
theorem dX5_isProject_3 : decode cX5_isProject 3 = .ok (.getfield 62, 3) := by decide +kernel
theorem dX5_isProject_6 : decode cX5_isProject 6 = .ok (.iconst 1, 1) := by decide +kernel
theorem dX5_isProject_7 : decode cX5_isProject 7 = .ok (.isub, 1) := by decide +kernel
theorem dX5_isProject_8 : decode cX5_isProject 8 = .ok (.invokestatic 55, 3) := by decide +kernel
theorem dX5_isProject_11 : decode cX5_isProject 11 = .ok (.ireturn, 1) := by decide +kernel
theorem dX5_person_0 : decode cX5_person 0 = .ok (.iload_n 1, 1) := by decide +kernel
theorem dX5_person_1 : decode cX5_person 1 = .ok (.iconst 0, 1) := by decide +kernel
theorem dX5_person_2 : decode cX5_person 2 = .ok (.sipush 2000, 3) := by decide +kernel
theorem dX5_person_5 : decode cX5_person 5 = .ok (.invokestatic 55, 3) := by decide +kernel
theorem dX5_person_8 : decode cX5_person 8 = .ok (.ifCond .ne 6, 3) := by decide +kernel
theorem dX5_person_11 : decode cX5_person 11 = .ok (.bipush (-102), 2) := by decide +kernel
theorem dX5_person_13 : decode cX5_person 13 = .ok (.ireturn, 1) := by decide +kernel
theorem dX5_person_14 : decode cX5_person 14 = .ok (.aload_n 0, 1) := by decide +kernel
theorem dX5_person_15 : decode cX5_person 15 = .ok (.getfield 51, 3) := by decide +kernel
theorem dX5_person_18 : decode cX5_person 18 = .ok (.bipush 12, 2) := by decide +kernel
theorem dX5_person_20 : decode cX5_person 20 = .ok (.if_icmp .ne 6, 3) := by decide +kernel
theorem dX5_person_23 : decode cX5_person 23 = .ok (.bipush (-104), 2) := by decide +kernel
theorem dX5_person_25 : decode cX5_person 25 = .ok (.ireturn, 1) := by decide +kernel
theorem dX5_person_26 : decode cX5_person 26 = .ok (.aload_n 0, 1) := by decide +kernel
theorem dX5_person_27 : decode cX5_person 27 = .ok (.getfield 7, 3) := by decide +kernel
theorem dX5_person_30 : decode cX5_person 30 = .ok (.aload_n 0, 1) := by decide +kernel
theorem dX5_person_31 : decode cX5_person 31 = .ok (.getfield 51, 3) := by decide +kernel
theorem dX5_person_34 : decode cX5_person 34 = .ok (.iload_n 1, 1) := by decide +kernel
theorem dX5_person_35 : decode cX5_person 35 = .ok (.iastore, 1) := by decide +kernel
theorem dX5_person_36 : decode cX5_person 36 = .ok (.aload_n 0, 1) := by decide +kernel
theorem dX5_person_37 : decode cX5_person 37 = .ok (.getfield 13, 3) := by decide +kernel
theorem dX5_person_40 : decode cX5_person 40 = .ok (.aload_n 0, 1) := by decide +kernel
theorem dX5_person_41 : decode cX5_person 41 = .ok (.getfield 51, 3) := by decide +kernel
theorem dX5_person_44 : decode cX5_person 44 = .ok (.iconst 1, 1) := by decide +kernel
theorem dX5_person_45 : decode cX5_person 45 = .ok (.bastore, 1) := by decide +kernel
theorem dX5_person_46 : decode cX5_person 46 = .ok (.aload_n 0, 1) := by decide +kernel
theorem dX5_person_47 : decode cX5_person 47 = .ok (.dup, 1) := by decide +kernel
theorem dX5_person_48 : decode cX5_person 48 = .ok (.getfield 51, 3) := by decide +kernel
theorem dX5_person_51 : decode cX5_person 51 = .ok (.iconst 1, 1) := by decide +kernel
theorem dX5_person_52 : decode cX5_person 52 = .ok (.iadd, 1) := by decide +kernel
theorem dX5_person_53 : decode cX5_person 53 = .ok (.putfield 51, 3) := by decide +kernel
theorem dX5_person_56 : decode cX5_person 56 = .ok (.aload_n 0, 1) := by decide +kernel
theorem dX5_person_57 : decode cX5_person 57 = .ok (.getfield 51, 3) := by decide +kernel
theorem dX5_person_60 : decode cX5_person 60 = .ok (.iconst 1, 1) := by decide +kernel
theorem dX5_person_61 : decode cX5_person 61 = .ok (.isub, 1) := by decide +kernel
theorem dX5_person_62 : decode cX5_person 62 = .ok (.ireturn, 1) := by decide +kernel
theorem dX5_question_0 : decode cX5_question 0 = .ok (.aload_n 0, 1) := by decide +kernel
theorem dX5_question_1 : decode cX5_question 1 = .ok (.getfield 59, 3) := by decide +kernel
theorem dX5_question_4 : decode cX5_question 4 = .ok (.bipush 6, 2) := by decide +kernel
theorem dX5_question_6 : decode cX5_question 6 = .ok (.if_icmp .ne 6, 3) := by decide +kernel
theorem dX5_question_9 : decode cX5_question 9 = .ok (.bipush (-104), 2) := by decide +kernel
theorem dX5_question_11 : decode cX5_question 11 = .ok (.ireturn, 1) := by decide +kernel
theorem dX5_question_12 : decode cX5_question 12 = .ok (.aload_n 0, 1) := by decide +kernel
theorem dX5_question_13 : decode cX5_question 13 = .ok (.dup, 1) := by decide +kernel
theorem dX5_question_14 : decode cX5_question 14 = .ok (.getfield 59, 3) := by decide +kernel
theorem dX5_question_17 : decode cX5_question 17 = .ok (.iconst 1, 1) := by decide +kernel
theorem dX5_question_18 : decode cX5_question 18 = .ok (.iadd, 1) := by decide +kernel
theorem dX5_question_19 : decode cX5_question 19 = .ok (.putfield 59, 3) := by decide +kernel
theorem dX5_question_22 : decode cX5_question 22 = .ok (.aload_n 0, 1) := by decide +kernel
theorem dX5_question_23 : decode cX5_question 23 = .ok (.getfield 59, 3) := by decide +kernel
theorem dX5_question_26 : decode cX5_question 26 = .ok (.iconst 1, 1) := by decide +kernel
theorem dX5_question_27 : decode cX5_question 27 = .ok (.isub, 1) := by decide +kernel
theorem dX5_question_28 : decode cX5_question 28 = .ok (.ireturn, 1) := by decide +kernel
theorem dX5_project_0 : decode cX5_project 0 = .ok (.aload_n 0, 1) := by decide +kernel
theorem dX5_project_1 : decode cX5_project 1 = .ok (.getfield 62, 3) := by decide +kernel
theorem dX5_project_4 : decode cX5_project 4 = .ok (.bipush 6, 2) := by decide +kernel
theorem dX5_project_6 : decode cX5_project 6 = .ok (.if_icmp .ne 6, 3) := by decide +kernel
theorem dX5_project_9 : decode cX5_project 9 = .ok (.bipush (-104), 2) := by decide +kernel
theorem dX5_project_11 : decode cX5_project 11 = .ok (.ireturn, 1) := by decide +kernel
theorem dX5_project_12 : decode cX5_project 12 = .ok (.aload_n 0, 1) := by decide +kernel
theorem dX5_project_13 : decode cX5_project 13 = .ok (.dup, 1) := by decide +kernel
theorem dX5_project_14 : decode cX5_project 14 = .ok (.getfield 62, 3) := by decide +kernel
theorem dX5_project_17 : decode cX5_project 17 = .ok (.iconst 1, 1) := by decide +kernel
theorem dX5_project_18 : decode cX5_project 18 = .ok (.iadd, 1) := by decide +kernel
theorem dX5_project_19 : decode cX5_project 19 = .ok (.putfield 62, 3) := by decide +kernel
theorem dX5_project_22 : decode cX5_project 22 = .ok (.aload_n 0, 1) := by decide +kernel
theorem dX5_project_23 : decode cX5_project 23 = .ok (.getfield 62, 3) := by decide +kernel
theorem dX5_project_26 : decode cX5_project 26 = .ok (.iconst 1, 1) := by decide +kernel
theorem dX5_project_27 : decode cX5_project 27 = .ok (.isub, 1) := by decide +kernel
theorem dX5_project_28 : decode cX5_project 28 = .ok (.ireturn, 1) := by decide +kernel
theorem dX5_seed_0 : decode cX5_seed 0 = .ok (.aload_n 0, 1) := by decide +kernel
theorem dX5_seed_1 : decode cX5_seed 1 = .ok (.getfield 65, 3) := by decide +kernel
theorem dX5_seed_4 : decode cX5_seed 4 = .ok (.istore_n 2, 1) := by decide +kernel
theorem dX5_seed_5 : decode cX5_seed 5 = .ok (.aload_n 0, 1) := by decide +kernel
theorem dX5_seed_6 : decode cX5_seed 6 = .ok (.iload_n 1, 1) := by decide +kernel
theorem dX5_seed_7 : decode cX5_seed 7 = .ok (.putfield 65, 3) := by decide +kernel
theorem dX5_seed_10 : decode cX5_seed 10 = .ok (.iload_n 2, 1) := by decide +kernel
theorem dX5_seed_11 : decode cX5_seed 11 = .ok (.ireturn, 1) := by decide +kernel
theorem dX5_costOf_0 : decode cX5_costOf 0 = .ok (.iconst 0, 1) := by decide +kernel
theorem dX5_costOf_1 : decode cX5_costOf 1 = .ok (.istore_n 2, 1) := by decide +kernel
theorem dX5_costOf_2 : decode cX5_costOf 2 = .ok (.iconst 0, 1) := by decide +kernel
theorem dX5_costOf_3 : decode cX5_costOf 3 = .ok (.istore_n 3, 1) := by decide +kernel
theorem dX5_costOf_4 : decode cX5_costOf 4 = .ok (.iload_n 3, 1) := by decide +kernel
theorem dX5_costOf_5 : decode cX5_costOf 5 = .ok (.aload_n 0, 1) := by decide +kernel
theorem dX5_costOf_6 : decode cX5_costOf 6 = .ok (.getfield 59, 3) := by decide +kernel
theorem dX5_costOf_9 : decode cX5_costOf 9 = .ok (.if_icmp .ge 35, 3) := by decide +kernel
theorem dX5_costOf_12 : decode cX5_costOf 12 = .ok (.iload_n 2, 1) := by decide +kernel
theorem dX5_costOf_13 : decode cX5_costOf 13 = .ok (.aload_n 0, 1) := by decide +kernel
theorem dX5_costOf_14 : decode cX5_costOf 14 = .ok (.getfield 17, 3) := by decide +kernel
theorem dX5_costOf_17 : decode cX5_costOf 17 = .ok (.bipush 6, 2) := by decide +kernel
theorem dX5_costOf_19 : decode cX5_costOf 19 = .ok (.iload_n 1, 1) := by decide +kernel
theorem dX5_costOf_20 : decode cX5_costOf 20 = .ok (.imul, 1) := by decide +kernel
theorem dX5_costOf_21 : decode cX5_costOf 21 = .ok (.iload_n 3, 1) := by decide +kernel
theorem dX5_costOf_22 : decode cX5_costOf 22 = .ok (.iadd, 1) := by decide +kernel
theorem dX5_costOf_23 : decode cX5_costOf 23 = .ok (.iaload, 1) := by decide +kernel
theorem dX5_costOf_24 : decode cX5_costOf 24 = .ok (.aload_n 0, 1) := by decide +kernel
theorem dX5_costOf_25 : decode cX5_costOf 25 = .ok (.getfield 17, 3) := by decide +kernel
theorem dX5_costOf_28 : decode cX5_costOf 28 = .ok (.bipush 6, 2) := by decide +kernel
theorem dX5_costOf_30 : decode cX5_costOf 30 = .ok (.iload_n 1, 1) := by decide +kernel
theorem dX5_costOf_31 : decode cX5_costOf 31 = .ok (.imul, 1) := by decide +kernel
theorem dX5_costOf_32 : decode cX5_costOf 32 = .ok (.iload_n 3, 1) := by decide +kernel
theorem dX5_costOf_33 : decode cX5_costOf 33 = .ok (.iadd, 1) := by decide +kernel
theorem dX5_costOf_34 : decode cX5_costOf 34 = .ok (.iaload, 1) := by decide +kernel
theorem dX5_costOf_35 : decode cX5_costOf 35 = .ok (.imul, 1) := by decide +kernel
theorem dX5_costOf_36 : decode cX5_costOf 36 = .ok (.iadd, 1) := by decide +kernel
theorem dX5_costOf_37 : decode cX5_costOf 37 = .ok (.istore_n 2, 1) := by decide +kernel
theorem dX5_costOf_38 : decode cX5_costOf 38 = .ok (.iinc 3 1, 3) := by decide +kernel
theorem dX5_costOf_41 : decode cX5_costOf 41 = .ok (.goto (-37), 3) := by decide +kernel
theorem dX5_costOf_44 : decode cX5_costOf 44 = .ok (.iload_n 2, 1) := by decide +kernel
theorem dX5_costOf_45 : decode cX5_costOf 45 = .ok (.ireturn, 1) := by decide +kernel
theorem dX5_vote_0 : decode cX5_vote 0 = .ok (.aload_n 0, 1) := by decide +kernel
theorem dX5_vote_1 : decode cX5_vote 1 = .ok (.iload_n 1, 1) := by decide +kernel
theorem dX5_vote_2 : decode cX5_vote 2 = .ok (.invokevirtual 68, 3) := by decide +kernel
theorem dX5_vote_5 : decode cX5_vote 5 = .ok (.ifCond .eq 11, 3) := by decide +kernel
theorem dX5_vote_8 : decode cX5_vote 8 = .ok (.aload_n 0, 1) := by decide +kernel
theorem dX5_vote_9 : decode cX5_vote 9 = .ok (.iload_n 2, 1) := by decide +kernel
theorem dX5_vote_10 : decode cX5_vote 10 = .ok (.invokevirtual 72, 3) := by decide +kernel
theorem dX5_vote_13 : decode cX5_vote 13 = .ok (.ifCond .ne 6, 3) := by decide +kernel
theorem dX5_vote_16 : decode cX5_vote 16 = .ok (.bipush (-101), 2) := by decide +kernel
theorem dX5_vote_18 : decode cX5_vote 18 = .ok (.ireturn, 1) := by decide +kernel
theorem dX5_vote_19 : decode cX5_vote 19 = .ok (.iload_n 3, 1) := by decide +kernel
theorem dX5_vote_20 : decode cX5_vote 20 = .ok (.bipush (-40), 2) := by decide +kernel
theorem dX5_vote_22 : decode cX5_vote 22 = .ok (.bipush 40, 2) := by decide +kernel
theorem dX5_vote_24 : decode cX5_vote 24 = .ok (.invokestatic 55, 3) := by decide +kernel
theorem dX5_vote_27 : decode cX5_vote 27 = .ok (.ifCond .ne 6, 3) := by decide +kernel
theorem dX5_vote_30 : decode cX5_vote 30 = .ok (.bipush (-102), 2) := by decide +kernel
theorem dX5_vote_32 : decode cX5_vote 32 = .ok (.ireturn, 1) := by decide +kernel
theorem dX5_vote_33 : decode cX5_vote 33 = .ok (.aload_n 0, 1) := by decide +kernel
theorem dX5_vote_34 : decode cX5_vote 34 = .ok (.getfield 17, 3) := by decide +kernel
theorem dX5_vote_37 : decode cX5_vote 37 = .ok (.bipush 6, 2) := by decide +kernel
theorem dX5_vote_39 : decode cX5_vote 39 = .ok (.iload_n 1, 1) := by decide +kernel
theorem dX5_vote_40 : decode cX5_vote 40 = .ok (.imul, 1) := by decide +kernel
theorem dX5_vote_41 : decode cX5_vote 41 = .ok (.iload_n 2, 1) := by decide +kernel
theorem dX5_vote_42 : decode cX5_vote 42 = .ok (.iadd, 1) := by decide +kernel
theorem dX5_vote_43 : decode cX5_vote 43 = .ok (.iaload, 1) := by decide +kernel
theorem dX5_vote_44 : decode cX5_vote 44 = .ok (.istore 4, 2) := by decide +kernel
theorem dX5_vote_46 : decode cX5_vote 46 = .ok (.aload_n 0, 1) := by decide +kernel
theorem dX5_vote_47 : decode cX5_vote 47 = .ok (.iload_n 1, 1) := by decide +kernel
theorem dX5_vote_48 : decode cX5_vote 48 = .ok (.invokevirtual 75, 3) := by decide +kernel
theorem dX5_vote_51 : decode cX5_vote 51 = .ok (.iload 4, 2) := by decide +kernel
theorem dX5_vote_53 : decode cX5_vote 53 = .ok (.iload 4, 2) := by decide +kernel
theorem dX5_vote_55 : decode cX5_vote 55 = .ok (.imul, 1) := by decide +kernel
theorem dX5_vote_56 : decode cX5_vote 56 = .ok (.isub, 1) := by decide +kernel
theorem dX5_vote_57 : decode cX5_vote 57 = .ok (.iload_n 3, 1) := by decide +kernel
theorem dX5_vote_58 : decode cX5_vote 58 = .ok (.iload_n 3, 1) := by decide +kernel
theorem dX5_vote_59 : decode cX5_vote 59 = .ok (.imul, 1) := by decide +kernel
theorem dX5_vote_60 : decode cX5_vote 60 = .ok (.iadd, 1) := by decide +kernel
theorem dX5_vote_61 : decode cX5_vote 61 = .ok (.istore 5, 2) := by decide +kernel
theorem dX5_vote_63 : decode cX5_vote 63 = .ok (.iload 5, 2) := by decide +kernel
theorem dX5_vote_65 : decode cX5_vote 65 = .ok (.aload_n 0, 1) := by decide +kernel
theorem dX5_vote_66 : decode cX5_vote 66 = .ok (.getfield 7, 3) := by decide +kernel
theorem dX5_vote_69 : decode cX5_vote 69 = .ok (.iload_n 1, 1) := by decide +kernel
theorem dX5_vote_70 : decode cX5_vote 70 = .ok (.iaload, 1) := by decide +kernel
theorem dX5_vote_71 : decode cX5_vote 71 = .ok (.if_icmp .le 6, 3) := by decide +kernel
theorem dX5_vote_74 : decode cX5_vote 74 = .ok (.bipush (-103), 2) := by decide +kernel
theorem dX5_vote_76 : decode cX5_vote 76 = .ok (.ireturn, 1) := by decide +kernel
theorem dX5_vote_77 : decode cX5_vote 77 = .ok (.aload_n 0, 1) := by decide +kernel
theorem dX5_vote_78 : decode cX5_vote 78 = .ok (.getfield 17, 3) := by decide +kernel
theorem dX5_vote_81 : decode cX5_vote 81 = .ok (.bipush 6, 2) := by decide +kernel
theorem dX5_vote_83 : decode cX5_vote 83 = .ok (.iload_n 1, 1) := by decide +kernel
theorem dX5_vote_84 : decode cX5_vote 84 = .ok (.imul, 1) := by decide +kernel
theorem dX5_vote_85 : decode cX5_vote 85 = .ok (.iload_n 2, 1) := by decide +kernel
theorem dX5_vote_86 : decode cX5_vote 86 = .ok (.iadd, 1) := by decide +kernel
theorem dX5_vote_87 : decode cX5_vote 87 = .ok (.iload_n 3, 1) := by decide +kernel
theorem dX5_vote_88 : decode cX5_vote 88 = .ok (.iastore, 1) := by decide +kernel
theorem dX5_vote_89 : decode cX5_vote 89 = .ok (.iload 5, 2) := by decide +kernel
theorem dX5_vote_91 : decode cX5_vote 91 = .ok (.ireturn, 1) := by decide +kernel
theorem dX5_worth_0 : decode cX5_worth 0 = .ok (.aload_n 0, 1) := by decide +kernel
theorem dX5_worth_1 : decode cX5_worth 1 = .ok (.iload_n 1, 1) := by decide +kernel
theorem dX5_worth_2 : decode cX5_worth 2 = .ok (.invokevirtual 68, 3) := by decide +kernel
theorem dX5_worth_5 : decode cX5_worth 5 = .ok (.ifCond .eq 11, 3) := by decide +kernel
theorem dX5_worth_8 : decode cX5_worth 8 = .ok (.aload_n 0, 1) := by decide +kernel
theorem dX5_worth_9 : decode cX5_worth 9 = .ok (.iload_n 2, 1) := by decide +kernel
theorem dX5_worth_10 : decode cX5_worth 10 = .ok (.invokevirtual 72, 3) := by decide +kernel
theorem dX5_worth_13 : decode cX5_worth 13 = .ok (.ifCond .ne 6, 3) := by decide +kernel
theorem dX5_worth_16 : decode cX5_worth 16 = .ok (.bipush (-101), 2) := by decide +kernel
theorem dX5_worth_18 : decode cX5_worth 18 = .ok (.ireturn, 1) := by decide +kernel
theorem dX5_worth_19 : decode cX5_worth 19 = .ok (.iload_n 3, 1) := by decide +kernel
theorem dX5_worth_20 : decode cX5_worth 20 = .ok (.sipush (-1000), 3) := by decide +kernel
theorem dX5_worth_23 : decode cX5_worth 23 = .ok (.sipush 1000, 3) := by decide +kernel
theorem dX5_worth_26 : decode cX5_worth 26 = .ok (.invokestatic 55, 3) := by decide +kernel
theorem dX5_worth_29 : decode cX5_worth 29 = .ok (.ifCond .ne 6, 3) := by decide +kernel
theorem dX5_worth_32 : decode cX5_worth 32 = .ok (.bipush (-102), 2) := by decide +kernel
theorem dX5_worth_34 : decode cX5_worth 34 = .ok (.ireturn, 1) := by decide +kernel
theorem dX5_worth_35 : decode cX5_worth 35 = .ok (.aload_n 0, 1) := by decide +kernel
theorem dX5_worth_36 : decode cX5_worth 36 = .ok (.getfield 20, 3) := by decide +kernel
theorem dX5_worth_39 : decode cX5_worth 39 = .ok (.bipush 6, 2) := by decide +kernel
theorem dX5_worth_41 : decode cX5_worth 41 = .ok (.iload_n 1, 1) := by decide +kernel
theorem dX5_worth_42 : decode cX5_worth 42 = .ok (.imul, 1) := by decide +kernel
theorem dX5_worth_43 : decode cX5_worth 43 = .ok (.iload_n 2, 1) := by decide +kernel
theorem dX5_worth_44 : decode cX5_worth 44 = .ok (.iadd, 1) := by decide +kernel
theorem dX5_worth_45 : decode cX5_worth 45 = .ok (.iaload, 1) := by decide +kernel
theorem dX5_worth_46 : decode cX5_worth 46 = .ok (.istore 4, 2) := by decide +kernel
theorem dX5_worth_48 : decode cX5_worth 48 = .ok (.aload_n 0, 1) := by decide +kernel
theorem dX5_worth_49 : decode cX5_worth 49 = .ok (.getfield 20, 3) := by decide +kernel
theorem dX5_worth_52 : decode cX5_worth 52 = .ok (.bipush 6, 2) := by decide +kernel
theorem dX5_worth_54 : decode cX5_worth 54 = .ok (.iload_n 1, 1) := by decide +kernel
theorem dX5_worth_55 : decode cX5_worth 55 = .ok (.imul, 1) := by decide +kernel
theorem dX5_worth_56 : decode cX5_worth 56 = .ok (.iload_n 2, 1) := by decide +kernel
theorem dX5_worth_57 : decode cX5_worth 57 = .ok (.iadd, 1) := by decide +kernel
theorem dX5_worth_58 : decode cX5_worth 58 = .ok (.iload_n 3, 1) := by decide +kernel
theorem dX5_worth_59 : decode cX5_worth 59 = .ok (.iastore, 1) := by decide +kernel
theorem dX5_worth_60 : decode cX5_worth 60 = .ok (.iload 4, 2) := by decide +kernel
theorem dX5_worth_62 : decode cX5_worth 62 = .ok (.ireturn, 1) := by decide +kernel
theorem dX5_here_0 : decode cX5_here 0 = .ok (.aload_n 0, 1) := by decide +kernel
theorem dX5_here_1 : decode cX5_here 1 = .ok (.iload_n 1, 1) := by decide +kernel
theorem dX5_here_2 : decode cX5_here 2 = .ok (.invokevirtual 68, 3) := by decide +kernel
theorem dX5_here_5 : decode cX5_here 5 = .ok (.ifCond .ne 6, 3) := by decide +kernel
theorem dX5_here_8 : decode cX5_here 8 = .ok (.bipush (-101), 2) := by decide +kernel
theorem dX5_here_10 : decode cX5_here 10 = .ok (.ireturn, 1) := by decide +kernel
theorem dX5_here_11 : decode cX5_here 11 = .ok (.aload_n 0, 1) := by decide +kernel
theorem dX5_here_12 : decode cX5_here 12 = .ok (.getfield 13, 3) := by decide +kernel
theorem dX5_here_15 : decode cX5_here 15 = .ok (.iload_n 1, 1) := by decide +kernel
theorem dX5_here_16 : decode cX5_here 16 = .ok (.baload, 1) := by decide +kernel
theorem dX5_here_17 : decode cX5_here 17 = .ok (.ifCond .eq 7, 3) := by decide +kernel
theorem dX5_here_20 : decode cX5_here 20 = .ok (.iconst 1, 1) := by decide +kernel
theorem dX5_here_21 : decode cX5_here 21 = .ok (.goto 4, 3) := by decide +kernel
theorem dX5_here_24 : decode cX5_here 24 = .ok (.iconst 0, 1) := by decide +kernel
theorem dX5_here_25 : decode cX5_here 25 = .ok (.istore_n 3, 1) := by decide +kernel
theorem dX5_here_26 : decode cX5_here 26 = .ok (.aload_n 0, 1) := by decide +kernel
theorem dX5_here_27 : decode cX5_here 27 = .ok (.getfield 13, 3) := by decide +kernel
theorem dX5_here_30 : decode cX5_here 30 = .ok (.iload_n 1, 1) := by decide +kernel
theorem dX5_here_31 : decode cX5_here 31 = .ok (.iload_n 2, 1) := by decide +kernel
theorem dX5_here_32 : decode cX5_here 32 = .ok (.bastore, 1) := by decide +kernel
theorem dX5_here_33 : decode cX5_here 33 = .ok (.iload_n 3, 1) := by decide +kernel
theorem dX5_here_34 : decode cX5_here 34 = .ok (.ireturn, 1) := by decide +kernel
theorem dX5_voices_0 : decode cX5_voices 0 = .ok (.aload_n 0, 1) := by decide +kernel
theorem dX5_voices_1 : decode cX5_voices 1 = .ok (.iload_n 1, 1) := by decide +kernel
theorem dX5_voices_2 : decode cX5_voices 2 = .ok (.invokevirtual 68, 3) := by decide +kernel
theorem dX5_voices_5 : decode cX5_voices 5 = .ok (.ifCond .eq 25, 3) := by decide +kernel
theorem dX5_voices_8 : decode cX5_voices 8 = .ok (.aload_n 0, 1) := by decide +kernel
theorem dX5_voices_9 : decode cX5_voices 9 = .ok (.iload_n 2, 1) := by decide +kernel
theorem dX5_voices_10 : decode cX5_voices 10 = .ok (.invokevirtual 72, 3) := by decide +kernel
theorem dX5_voices_13 : decode cX5_voices 13 = .ok (.ifCond .eq 17, 3) := by decide +kernel
theorem dX5_voices_16 : decode cX5_voices 16 = .ok (.aload_n 0, 1) := by decide +kernel
theorem dX5_voices_17 : decode cX5_voices 17 = .ok (.getfield 17, 3) := by decide +kernel
theorem dX5_voices_20 : decode cX5_voices 20 = .ok (.bipush 6, 2) := by decide +kernel
theorem dX5_voices_22 : decode cX5_voices 22 = .ok (.iload_n 1, 1) := by decide +kernel
theorem dX5_voices_23 : decode cX5_voices 23 = .ok (.imul, 1) := by decide +kernel
theorem dX5_voices_24 : decode cX5_voices 24 = .ok (.iload_n 2, 1) := by decide +kernel
theorem dX5_voices_25 : decode cX5_voices 25 = .ok (.iadd, 1) := by decide +kernel
theorem dX5_voices_26 : decode cX5_voices 26 = .ok (.iaload, 1) := by decide +kernel
theorem dX5_voices_27 : decode cX5_voices 27 = .ok (.goto 6, 3) := by decide +kernel
theorem dX5_voices_30 : decode cX5_voices 30 = .ok (.sipush (-2000), 3) := by decide +kernel
theorem dX5_voices_33 : decode cX5_voices 33 = .ok (.ireturn, 1) := by decide +kernel
theorem dX5_cost_0 : decode cX5_cost 0 = .ok (.aload_n 0, 1) := by decide +kernel
theorem dX5_cost_1 : decode cX5_cost 1 = .ok (.iload_n 1, 1) := by decide +kernel
theorem dX5_cost_2 : decode cX5_cost 2 = .ok (.invokevirtual 68, 3) := by decide +kernel
theorem dX5_cost_5 : decode cX5_cost 5 = .ok (.ifCond .eq 11, 3) := by decide +kernel
theorem dX5_cost_8 : decode cX5_cost 8 = .ok (.aload_n 0, 1) := by decide +kernel
theorem dX5_cost_9 : decode cX5_cost 9 = .ok (.iload_n 1, 1) := by decide +kernel
theorem dX5_cost_10 : decode cX5_cost 10 = .ok (.invokevirtual 75, 3) := by decide +kernel
theorem dX5_cost_13 : decode cX5_cost 13 = .ok (.goto 5, 3) := by decide +kernel
theorem dX5_cost_16 : decode cX5_cost 16 = .ok (.bipush (-101), 2) := by decide +kernel
theorem dX5_cost_18 : decode cX5_cost 18 = .ok (.ireturn, 1) := by decide +kernel
theorem dX5_others_0 : decode cX5_others 0 = .ok (.iconst 0, 1) := by decide +kernel
theorem dX5_others_1 : decode cX5_others 1 = .ok (.istore_n 3, 1) := by decide +kernel
theorem dX5_others_2 : decode cX5_others 2 = .ok (.iconst 0, 1) := by decide +kernel
theorem dX5_others_3 : decode cX5_others 3 = .ok (.istore 4, 2) := by decide +kernel
theorem dX5_others_5 : decode cX5_others 5 = .ok (.iload 4, 2) := by decide +kernel
theorem dX5_others_7 : decode cX5_others 7 = .ok (.aload_n 0, 1) := by decide +kernel
theorem dX5_others_8 : decode cX5_others 8 = .ok (.getfield 51, 3) := by decide +kernel
theorem dX5_others_11 : decode cX5_others 11 = .ok (.if_icmp .ge 44, 3) := by decide +kernel
theorem dX5_others_14 : decode cX5_others 14 = .ok (.iload_n 3, 1) := by decide +kernel
theorem dX5_others_15 : decode cX5_others 15 = .ok (.aload_n 0, 1) := by decide +kernel
theorem dX5_others_16 : decode cX5_others 16 = .ok (.getfield 13, 3) := by decide +kernel
theorem dX5_others_19 : decode cX5_others 19 = .ok (.iload 4, 2) := by decide +kernel
theorem dX5_others_21 : decode cX5_others 21 = .ok (.baload, 1) := by decide +kernel
theorem dX5_others_22 : decode cX5_others 22 = .ok (.ifCond .eq 24, 3) := by decide +kernel
theorem dX5_others_25 : decode cX5_others 25 = .ok (.iload 4, 2) := by decide +kernel
theorem dX5_others_27 : decode cX5_others 27 = .ok (.iload_n 2, 1) := by decide +kernel
theorem dX5_others_28 : decode cX5_others 28 = .ok (.if_icmp .eq 18, 3) := by decide +kernel
theorem dX5_others_31 : decode cX5_others 31 = .ok (.aload_n 0, 1) := by decide +kernel
theorem dX5_others_32 : decode cX5_others 32 = .ok (.getfield 17, 3) := by decide +kernel
theorem dX5_others_35 : decode cX5_others 35 = .ok (.bipush 6, 2) := by decide +kernel
theorem dX5_others_37 : decode cX5_others 37 = .ok (.iload 4, 2) := by decide +kernel
theorem dX5_others_39 : decode cX5_others 39 = .ok (.imul, 1) := by decide +kernel
theorem dX5_others_40 : decode cX5_others 40 = .ok (.iload_n 1, 1) := by decide +kernel
theorem dX5_others_41 : decode cX5_others 41 = .ok (.iadd, 1) := by decide +kernel
theorem dX5_others_42 : decode cX5_others 42 = .ok (.iaload, 1) := by decide +kernel
theorem dX5_others_43 : decode cX5_others 43 = .ok (.goto 4, 3) := by decide +kernel
theorem dX5_others_46 : decode cX5_others 46 = .ok (.iconst 0, 1) := by decide +kernel
theorem dX5_others_47 : decode cX5_others 47 = .ok (.iadd, 1) := by decide +kernel
theorem dX5_others_48 : decode cX5_others 48 = .ok (.istore_n 3, 1) := by decide +kernel
theorem dX5_others_49 : decode cX5_others 49 = .ok (.iinc 4 1, 3) := by decide +kernel
theorem dX5_others_52 : decode cX5_others 52 = .ok (.goto (-47), 3) := by decide +kernel
theorem dX5_others_55 : decode cX5_others 55 = .ok (.iload_n 3, 1) := by decide +kernel
theorem dX5_others_56 : decode cX5_others 56 = .ok (.ireturn, 1) := by decide +kernel
theorem dX5_total_0 : decode cX5_total 0 = .ok (.aload_n 0, 1) := by decide +kernel
theorem dX5_total_1 : decode cX5_total 1 = .ok (.iload_n 1, 1) := by decide +kernel
theorem dX5_total_2 : decode cX5_total 2 = .ok (.invokevirtual 72, 3) := by decide +kernel
theorem dX5_total_5 : decode cX5_total 5 = .ok (.ifCond .eq 12, 3) := by decide +kernel
theorem dX5_total_8 : decode cX5_total 8 = .ok (.aload_n 0, 1) := by decide +kernel
theorem dX5_total_9 : decode cX5_total 9 = .ok (.iload_n 1, 1) := by decide +kernel
theorem dX5_total_10 : decode cX5_total 10 = .ok (.iconst (-1), 1) := by decide +kernel
theorem dX5_total_11 : decode cX5_total 11 = .ok (.invokevirtual 79, 3) := by decide +kernel
theorem dX5_total_14 : decode cX5_total 14 = .ok (.goto 6, 3) := by decide +kernel
theorem dX5_total_17 : decode cX5_total 17 = .ok (.sipush (-2000), 3) := by decide +kernel
theorem dX5_total_20 : decode cX5_total 20 = .ok (.ireturn, 1) := by decide +kernel
theorem dX5_resultOf_0 : decode cX5_resultOf 0 = .ok (.iload_n 2, 1) := by decide +kernel
theorem dX5_resultOf_1 : decode cX5_resultOf 1 = .ok (.ifCond .eq 13, 3) := by decide +kernel
theorem dX5_resultOf_4 : decode cX5_resultOf 4 = .ok (.iload_n 2, 1) := by decide +kernel
theorem dX5_resultOf_5 : decode cX5_resultOf 5 = .ok (.ifCond .le 7, 3) := by decide +kernel
theorem dX5_resultOf_8 : decode cX5_resultOf 8 = .ok (.iconst 1, 1) := by decide +kernel
theorem dX5_resultOf_9 : decode cX5_resultOf 9 = .ok (.goto 4, 3) := by decide +kernel
theorem dX5_resultOf_12 : decode cX5_resultOf 12 = .ok (.iconst (-1), 1) := by decide +kernel
theorem dX5_resultOf_13 : decode cX5_resultOf 13 = .ok (.ireturn, 1) := by decide +kernel
theorem dX5_resultOf_14 : decode cX5_resultOf 14 = .ok (.aload_n 0, 1) := by decide +kernel
theorem dX5_resultOf_15 : decode cX5_resultOf 15 = .ok (.getfield 65, 3) := by decide +kernel
theorem dX5_resultOf_18 : decode cX5_resultOf 18 = .ok (.istore_n 3, 1) := by decide +kernel
theorem dX5_resultOf_19 : decode cX5_resultOf 19 = .ok (.iconst 0, 1) := by decide +kernel
theorem dX5_resultOf_20 : decode cX5_resultOf 20 = .ok (.istore 4, 2) := by decide +kernel
theorem dX5_resultOf_22 : decode cX5_resultOf 22 = .ok (.iload 4, 2) := by decide +kernel
theorem dX5_resultOf_24 : decode cX5_resultOf 24 = .ok (.iload_n 1, 1) := by decide +kernel
theorem dX5_resultOf_25 : decode cX5_resultOf 25 = .ok (.if_icmp .gt 17, 3) := by decide +kernel
theorem dX5_resultOf_28 : decode cX5_resultOf 28 = .ok (.iload_n 3, 1) := by decide +kernel
theorem dX5_resultOf_29 : decode cX5_resultOf 29 = .ok (.ldc 83, 2) := by decide +kernel
theorem dX5_resultOf_31 : decode cX5_resultOf 31 = .ok (.imul, 1) := by decide +kernel
theorem dX5_resultOf_32 : decode cX5_resultOf 32 = .ok (.ldc 84, 2) := by decide +kernel
theorem dX5_resultOf_34 : decode cX5_resultOf 34 = .ok (.iadd, 1) := by decide +kernel
theorem dX5_resultOf_35 : decode cX5_resultOf 35 = .ok (.istore_n 3, 1) := by decide +kernel
theorem dX5_resultOf_36 : decode cX5_resultOf 36 = .ok (.iinc 4 1, 3) := by decide +kernel
theorem dX5_resultOf_39 : decode cX5_resultOf 39 = .ok (.goto (-17), 3) := by decide +kernel
theorem dX5_resultOf_42 : decode cX5_resultOf 42 = .ok (.iload_n 3, 1) := by decide +kernel
theorem dX5_resultOf_43 : decode cX5_resultOf 43 = .ok (.bipush 20, 2) := by decide +kernel
theorem dX5_resultOf_45 : decode cX5_resultOf 45 = .ok (.ishr, 1) := by decide +kernel
theorem dX5_resultOf_46 : decode cX5_resultOf 46 = .ok (.iconst 1, 1) := by decide +kernel
theorem dX5_resultOf_47 : decode cX5_resultOf 47 = .ok (.iand, 1) := by decide +kernel
theorem dX5_resultOf_48 : decode cX5_resultOf 48 = .ok (.iconst 1, 1) := by decide +kernel
theorem dX5_resultOf_49 : decode cX5_resultOf 49 = .ok (.if_icmp .ne 7, 3) := by decide +kernel
theorem dX5_resultOf_52 : decode cX5_resultOf 52 = .ok (.iconst 1, 1) := by decide +kernel
theorem dX5_resultOf_53 : decode cX5_resultOf 53 = .ok (.goto 4, 3) := by decide +kernel
theorem dX5_resultOf_56 : decode cX5_resultOf 56 = .ok (.iconst (-1), 1) := by decide +kernel
theorem dX5_resultOf_57 : decode cX5_resultOf 57 = .ok (.ireturn, 1) := by decide +kernel
theorem dX5_result_0 : decode cX5_result 0 = .ok (.aload_n 0, 1) := by decide +kernel
theorem dX5_result_1 : decode cX5_result 1 = .ok (.iload_n 1, 1) := by decide +kernel
theorem dX5_result_2 : decode cX5_result 2 = .ok (.invokevirtual 72, 3) := by decide +kernel
theorem dX5_result_5 : decode cX5_result 5 = .ok (.ifCond .eq 17, 3) := by decide +kernel
theorem dX5_result_8 : decode cX5_result 8 = .ok (.aload_n 0, 1) := by decide +kernel
theorem dX5_result_9 : decode cX5_result 9 = .ok (.iload_n 1, 1) := by decide +kernel
theorem dX5_result_10 : decode cX5_result 10 = .ok (.aload_n 0, 1) := by decide +kernel
theorem dX5_result_11 : decode cX5_result 11 = .ok (.iload_n 1, 1) := by decide +kernel
theorem dX5_result_12 : decode cX5_result 12 = .ok (.iconst (-1), 1) := by decide +kernel
theorem dX5_result_13 : decode cX5_result 13 = .ok (.invokevirtual 79, 3) := by decide +kernel
theorem dX5_result_16 : decode cX5_result 16 = .ok (.invokevirtual 85, 3) := by decide +kernel
theorem dX5_result_19 : decode cX5_result 19 = .ok (.goto 5, 3) := by decide +kernel
theorem dX5_result_22 : decode cX5_result 22 = .ok (.bipush (-101), 2) := by decide +kernel
theorem dX5_result_24 : decode cX5_result 24 = .ok (.ireturn, 1) := by decide +kernel
theorem dX5_gainBy_0 : decode cX5_gainBy 0 = .ok (.iload_n 1, 1) := by decide +kernel
theorem dX5_gainBy_1 : decode cX5_gainBy 1 = .ok (.ifCond .le 9, 3) := by decide +kernel
theorem dX5_gainBy_4 : decode cX5_gainBy 4 = .ok (.iconst 2, 1) := by decide +kernel
theorem dX5_gainBy_5 : decode cX5_gainBy 5 = .ok (.iload_n 0, 1) := by decide +kernel
theorem dX5_gainBy_6 : decode cX5_gainBy 6 = .ok (.imul, 1) := by decide +kernel
theorem dX5_gainBy_7 : decode cX5_gainBy 7 = .ok (.goto 12, 3) := by decide +kernel
theorem dX5_gainBy_10 : decode cX5_gainBy 10 = .ok (.iload_n 1, 1) := by decide +kernel
theorem dX5_gainBy_11 : decode cX5_gainBy 11 = .ok (.ifCond .ne 7, 3) := by decide +kernel
theorem dX5_gainBy_14 : decode cX5_gainBy 14 = .ok (.iload_n 0, 1) := by decide +kernel
theorem dX5_gainBy_15 : decode cX5_gainBy 15 = .ok (.goto 4, 3) := by decide +kernel
theorem dX5_gainBy_18 : decode cX5_gainBy 18 = .ok (.iconst 0, 1) := by decide +kernel
theorem dX5_gainBy_19 : decode cX5_gainBy 19 = .ok (.ireturn, 1) := by decide +kernel
theorem dX5_gainOf_0 : decode cX5_gainOf 0 = .ok (.iconst 0, 1) := by decide +kernel
theorem dX5_gainOf_1 : decode cX5_gainOf 1 = .ok (.istore_n 2, 1) := by decide +kernel
theorem dX5_gainOf_2 : decode cX5_gainOf 2 = .ok (.iconst 0, 1) := by decide +kernel
theorem dX5_gainOf_3 : decode cX5_gainOf 3 = .ok (.istore_n 3, 1) := by decide +kernel
theorem dX5_gainOf_4 : decode cX5_gainOf 4 = .ok (.iload_n 3, 1) := by decide +kernel
theorem dX5_gainOf_5 : decode cX5_gainOf 5 = .ok (.aload_n 0, 1) := by decide +kernel
theorem dX5_gainOf_6 : decode cX5_gainOf 6 = .ok (.getfield 59, 3) := by decide +kernel
theorem dX5_gainOf_9 : decode cX5_gainOf 9 = .ok (.if_icmp .ge 32, 3) := by decide +kernel
theorem dX5_gainOf_12 : decode cX5_gainOf 12 = .ok (.iload_n 2, 1) := by decide +kernel
theorem dX5_gainOf_13 : decode cX5_gainOf 13 = .ok (.aload_n 0, 1) := by decide +kernel
theorem dX5_gainOf_14 : decode cX5_gainOf 14 = .ok (.getfield 20, 3) := by decide +kernel
theorem dX5_gainOf_17 : decode cX5_gainOf 17 = .ok (.bipush 6, 2) := by decide +kernel
theorem dX5_gainOf_19 : decode cX5_gainOf 19 = .ok (.iload_n 1, 1) := by decide +kernel
theorem dX5_gainOf_20 : decode cX5_gainOf 20 = .ok (.imul, 1) := by decide +kernel
theorem dX5_gainOf_21 : decode cX5_gainOf 21 = .ok (.iload_n 3, 1) := by decide +kernel
theorem dX5_gainOf_22 : decode cX5_gainOf 22 = .ok (.iadd, 1) := by decide +kernel
theorem dX5_gainOf_23 : decode cX5_gainOf 23 = .ok (.iaload, 1) := by decide +kernel
theorem dX5_gainOf_24 : decode cX5_gainOf 24 = .ok (.aload_n 0, 1) := by decide +kernel
theorem dX5_gainOf_25 : decode cX5_gainOf 25 = .ok (.iload_n 3, 1) := by decide +kernel
theorem dX5_gainOf_26 : decode cX5_gainOf 26 = .ok (.iconst (-1), 1) := by decide +kernel
theorem dX5_gainOf_27 : decode cX5_gainOf 27 = .ok (.invokevirtual 79, 3) := by decide +kernel
theorem dX5_gainOf_30 : decode cX5_gainOf 30 = .ok (.invokestatic 88, 3) := by decide +kernel
theorem dX5_gainOf_33 : decode cX5_gainOf 33 = .ok (.iadd, 1) := by decide +kernel
theorem dX5_gainOf_34 : decode cX5_gainOf 34 = .ok (.istore_n 2, 1) := by decide +kernel
theorem dX5_gainOf_35 : decode cX5_gainOf 35 = .ok (.iinc 3 1, 3) := by decide +kernel
theorem dX5_gainOf_38 : decode cX5_gainOf 38 = .ok (.goto (-34), 3) := by decide +kernel
theorem dX5_gainOf_41 : decode cX5_gainOf 41 = .ok (.iload_n 2, 1) := by decide +kernel
theorem dX5_gainOf_42 : decode cX5_gainOf 42 = .ok (.ireturn, 1) := by decide +kernel
theorem dX5_gain_0 : decode cX5_gain 0 = .ok (.aload_n 0, 1) := by decide +kernel
theorem dX5_gain_1 : decode cX5_gain 1 = .ok (.iload_n 1, 1) := by decide +kernel
theorem dX5_gain_2 : decode cX5_gain 2 = .ok (.invokevirtual 68, 3) := by decide +kernel
theorem dX5_gain_5 : decode cX5_gain 5 = .ok (.ifCond .eq 11, 3) := by decide +kernel
theorem dX5_gain_8 : decode cX5_gain 8 = .ok (.aload_n 0, 1) := by decide +kernel
theorem dX5_gain_9 : decode cX5_gain 9 = .ok (.iload_n 1, 1) := by decide +kernel
theorem dX5_gain_10 : decode cX5_gain 10 = .ok (.invokevirtual 91, 3) := by decide +kernel
theorem dX5_gain_13 : decode cX5_gain 13 = .ok (.goto 5, 3) := by decide +kernel
theorem dX5_gain_16 : decode cX5_gain 16 = .ok (.ldc 94, 2) := by decide +kernel
theorem dX5_gain_18 : decode cX5_gain 18 = .ok (.ireturn, 1) := by decide +kernel
theorem dX5_swings_0 : decode cX5_swings 0 = .ok (.aload_n 0, 1) := by decide +kernel
theorem dX5_swings_1 : decode cX5_swings 1 = .ok (.iload_n 1, 1) := by decide +kernel
theorem dX5_swings_2 : decode cX5_swings 2 = .ok (.invokevirtual 68, 3) := by decide +kernel
theorem dX5_swings_5 : decode cX5_swings 5 = .ok (.ifCond .ne 6, 3) := by decide +kernel
theorem dX5_swings_8 : decode cX5_swings 8 = .ok (.bipush (-101), 2) := by decide +kernel
theorem dX5_swings_10 : decode cX5_swings 10 = .ok (.ireturn, 1) := by decide +kernel
theorem dX5_swings_11 : decode cX5_swings 11 = .ok (.iconst 0, 1) := by decide +kernel
theorem dX5_swings_12 : decode cX5_swings 12 = .ok (.istore_n 2, 1) := by decide +kernel
theorem dX5_swings_13 : decode cX5_swings 13 = .ok (.iconst 0, 1) := by decide +kernel
theorem dX5_swings_14 : decode cX5_swings 14 = .ok (.istore_n 3, 1) := by decide +kernel
theorem dX5_swings_15 : decode cX5_swings 15 = .ok (.iload_n 3, 1) := by decide +kernel
theorem dX5_swings_16 : decode cX5_swings 16 = .ok (.aload_n 0, 1) := by decide +kernel
theorem dX5_swings_17 : decode cX5_swings 17 = .ok (.getfield 59, 3) := by decide +kernel
theorem dX5_swings_20 : decode cX5_swings 20 = .ok (.if_icmp .ge 56, 3) := by decide +kernel
theorem dX5_swings_23 : decode cX5_swings 23 = .ok (.aload_n 0, 1) := by decide +kernel
theorem dX5_swings_24 : decode cX5_swings 24 = .ok (.iload_n 3, 1) := by decide +kernel
theorem dX5_swings_25 : decode cX5_swings 25 = .ok (.iload_n 1, 1) := by decide +kernel
theorem dX5_swings_26 : decode cX5_swings 26 = .ok (.invokevirtual 79, 3) := by decide +kernel
theorem dX5_swings_29 : decode cX5_swings 29 = .ok (.istore 4, 2) := by decide +kernel
theorem dX5_swings_31 : decode cX5_swings 31 = .ok (.iload_n 2, 1) := by decide +kernel
theorem dX5_swings_32 : decode cX5_swings 32 = .ok (.aload_n 0, 1) := by decide +kernel
theorem dX5_swings_33 : decode cX5_swings 33 = .ok (.iload_n 3, 1) := by decide +kernel
theorem dX5_swings_34 : decode cX5_swings 34 = .ok (.iload 4, 2) := by decide +kernel
theorem dX5_swings_36 : decode cX5_swings 36 = .ok (.invokevirtual 85, 3) := by decide +kernel
theorem dX5_swings_39 : decode cX5_swings 39 = .ok (.aload_n 0, 1) := by decide +kernel
theorem dX5_swings_40 : decode cX5_swings 40 = .ok (.iload_n 3, 1) := by decide +kernel
theorem dX5_swings_41 : decode cX5_swings 41 = .ok (.iload 4, 2) := by decide +kernel
theorem dX5_swings_43 : decode cX5_swings 43 = .ok (.aload_n 0, 1) := by decide +kernel
theorem dX5_swings_44 : decode cX5_swings 44 = .ok (.getfield 17, 3) := by decide +kernel
theorem dX5_swings_47 : decode cX5_swings 47 = .ok (.bipush 6, 2) := by decide +kernel
theorem dX5_swings_49 : decode cX5_swings 49 = .ok (.iload_n 1, 1) := by decide +kernel
theorem dX5_swings_50 : decode cX5_swings 50 = .ok (.imul, 1) := by decide +kernel
theorem dX5_swings_51 : decode cX5_swings 51 = .ok (.iload_n 3, 1) := by decide +kernel
theorem dX5_swings_52 : decode cX5_swings 52 = .ok (.iadd, 1) := by decide +kernel
theorem dX5_swings_53 : decode cX5_swings 53 = .ok (.iaload, 1) := by decide +kernel
theorem dX5_swings_54 : decode cX5_swings 54 = .ok (.iadd, 1) := by decide +kernel
theorem dX5_swings_55 : decode cX5_swings 55 = .ok (.invokevirtual 85, 3) := by decide +kernel
theorem dX5_swings_58 : decode cX5_swings 58 = .ok (.if_icmp .eq 9, 3) := by decide +kernel
theorem dX5_swings_61 : decode cX5_swings 61 = .ok (.iconst 1, 1) := by decide +kernel
theorem dX5_swings_62 : decode cX5_swings 62 = .ok (.iload_n 3, 1) := by decide +kernel
theorem dX5_swings_63 : decode cX5_swings 63 = .ok (.ishl, 1) := by decide +kernel
theorem dX5_swings_64 : decode cX5_swings 64 = .ok (.goto 4, 3) := by decide +kernel
theorem dX5_swings_67 : decode cX5_swings 67 = .ok (.iconst 0, 1) := by decide +kernel
theorem dX5_swings_68 : decode cX5_swings 68 = .ok (.ior, 1) := by decide +kernel
theorem dX5_swings_69 : decode cX5_swings 69 = .ok (.istore_n 2, 1) := by decide +kernel
theorem dX5_swings_70 : decode cX5_swings 70 = .ok (.iinc 3 1, 3) := by decide +kernel
theorem dX5_swings_73 : decode cX5_swings 73 = .ok (.goto (-58), 3) := by decide +kernel
theorem dX5_swings_76 : decode cX5_swings 76 = .ok (.iload_n 2, 1) := by decide +kernel
theorem dX5_swings_77 : decode cX5_swings 77 = .ok (.ireturn, 1) := by decide +kernel
theorem dX5_end_0 : decode cX5_end 0 = .ok (.aload_n 0, 1) := by decide +kernel
theorem dX5_end_1 : decode cX5_end 1 = .ok (.getfield 29, 3) := by decide +kernel
theorem dX5_end_4 : decode cX5_end 4 = .ok (.iload_n 1, 1) := by decide +kernel
theorem dX5_end_5 : decode cX5_end 5 = .ok (.iload_n 2, 1) := by decide +kernel
theorem dX5_end_6 : decode cX5_end 6 = .ok (.iastore, 1) := by decide +kernel
theorem dX5_end_7 : decode cX5_end 7 = .ok (.aload_n 0, 1) := by decide +kernel
theorem dX5_end_8 : decode cX5_end 8 = .ok (.getfield 32, 3) := by decide +kernel
theorem dX5_end_11 : decode cX5_end 11 = .ok (.iload_n 1, 1) := by decide +kernel
theorem dX5_end_12 : decode cX5_end 12 = .ok (.iload_n 2, 1) := by decide +kernel
theorem dX5_end_13 : decode cX5_end 13 = .ok (.bipush (-40), 2) := by decide +kernel
theorem dX5_end_15 : decode cX5_end 15 = .ok (.bipush 40, 2) := by decide +kernel
theorem dX5_end_17 : decode cX5_end 17 = .ok (.invokestatic 55, 3) := by decide +kernel
theorem dX5_end_20 : decode cX5_end 20 = .ok (.bastore, 1) := by decide +kernel
theorem dX5_end_21 : decode cX5_end 21 = .ok (.return_, 1) := by decide +kernel
theorem dX5_isBetter_0 : decode cX5_isBetter 0 = .ok (.aload_n 0, 1) := by decide +kernel
theorem dX5_isBetter_1 : decode cX5_isBetter 1 = .ok (.getfield 95, 3) := by decide +kernel
theorem dX5_isBetter_4 : decode cX5_isBetter 4 = .ok (.ifCond .eq 11, 3) := by decide +kernel
theorem dX5_isBetter_7 : decode cX5_isBetter 7 = .ok (.iload_n 1, 1) := by decide +kernel
theorem dX5_isBetter_8 : decode cX5_isBetter 8 = .ok (.aload_n 0, 1) := by decide +kernel
theorem dX5_isBetter_9 : decode cX5_isBetter 9 = .ok (.getfield 99, 3) := by decide +kernel
theorem dX5_isBetter_12 : decode cX5_isBetter 12 = .ok (.if_icmp .eq 24, 3) := by decide +kernel
theorem dX5_isBetter_15 : decode cX5_isBetter 15 = .ok (.aload_n 0, 1) := by decide +kernel
theorem dX5_isBetter_16 : decode cX5_isBetter 16 = .ok (.getfield 95, 3) := by decide +kernel
theorem dX5_isBetter_19 : decode cX5_isBetter 19 = .ok (.ifCond .eq 11, 3) := by decide +kernel
theorem dX5_isBetter_22 : decode cX5_isBetter 22 = .ok (.iload_n 1, 1) := by decide +kernel
theorem dX5_isBetter_23 : decode cX5_isBetter 23 = .ok (.aload_n 0, 1) := by decide +kernel
theorem dX5_isBetter_24 : decode cX5_isBetter 24 = .ok (.getfield 99, 3) := by decide +kernel
theorem dX5_isBetter_27 : decode cX5_isBetter 27 = .ok (.if_icmp .le 7, 3) := by decide +kernel
theorem dX5_isBetter_30 : decode cX5_isBetter 30 = .ok (.iconst 1, 1) := by decide +kernel
theorem dX5_isBetter_31 : decode cX5_isBetter 31 = .ok (.goto 4, 3) := by decide +kernel
theorem dX5_isBetter_34 : decode cX5_isBetter 34 = .ok (.iconst 0, 1) := by decide +kernel
theorem dX5_isBetter_35 : decode cX5_isBetter 35 = .ok (.ireturn, 1) := by decide +kernel
theorem dX5_isBetter_36 : decode cX5_isBetter 36 = .ok (.iload_n 2, 1) := by decide +kernel
theorem dX5_isBetter_37 : decode cX5_isBetter 37 = .ok (.aload_n 0, 1) := by decide +kernel
theorem dX5_isBetter_38 : decode cX5_isBetter 38 = .ok (.getfield 102, 3) := by decide +kernel
theorem dX5_isBetter_41 : decode cX5_isBetter 41 = .ok (.if_icmp .eq 17, 3) := by decide +kernel
theorem dX5_isBetter_44 : decode cX5_isBetter 44 = .ok (.iload_n 2, 1) := by decide +kernel
theorem dX5_isBetter_45 : decode cX5_isBetter 45 = .ok (.aload_n 0, 1) := by decide +kernel
theorem dX5_isBetter_46 : decode cX5_isBetter 46 = .ok (.getfield 102, 3) := by decide +kernel
theorem dX5_isBetter_49 : decode cX5_isBetter 49 = .ok (.if_icmp .ge 7, 3) := by decide +kernel
theorem dX5_isBetter_52 : decode cX5_isBetter 52 = .ok (.iconst 1, 1) := by decide +kernel
theorem dX5_isBetter_53 : decode cX5_isBetter 53 = .ok (.goto 4, 3) := by decide +kernel
theorem dX5_isBetter_56 : decode cX5_isBetter 56 = .ok (.iconst 0, 1) := by decide +kernel
theorem dX5_isBetter_57 : decode cX5_isBetter 57 = .ok (.ireturn, 1) := by decide +kernel
theorem dX5_isBetter_58 : decode cX5_isBetter 58 = .ok (.iconst 0, 1) := by decide +kernel
theorem dX5_isBetter_59 : decode cX5_isBetter 59 = .ok (.istore_n 3, 1) := by decide +kernel
theorem dX5_isBetter_60 : decode cX5_isBetter 60 = .ok (.iload_n 3, 1) := by decide +kernel
theorem dX5_isBetter_61 : decode cX5_isBetter 61 = .ok (.aload_n 0, 1) := by decide +kernel
theorem dX5_isBetter_62 : decode cX5_isBetter 62 = .ok (.getfield 59, 3) := by decide +kernel
theorem dX5_isBetter_65 : decode cX5_isBetter 65 = .ok (.if_icmp .ge 45, 3) := by decide +kernel
theorem dX5_isBetter_68 : decode cX5_isBetter 68 = .ok (.aload_n 0, 1) := by decide +kernel
theorem dX5_isBetter_69 : decode cX5_isBetter 69 = .ok (.getfield 38, 3) := by decide +kernel
theorem dX5_isBetter_72 : decode cX5_isBetter 72 = .ok (.iload_n 3, 1) := by decide +kernel
theorem dX5_isBetter_73 : decode cX5_isBetter 73 = .ok (.iaload, 1) := by decide +kernel
theorem dX5_isBetter_74 : decode cX5_isBetter 74 = .ok (.aload_n 0, 1) := by decide +kernel
theorem dX5_isBetter_75 : decode cX5_isBetter 75 = .ok (.getfield 35, 3) := by decide +kernel
theorem dX5_isBetter_78 : decode cX5_isBetter 78 = .ok (.iload_n 3, 1) := by decide +kernel
theorem dX5_isBetter_79 : decode cX5_isBetter 79 = .ok (.iaload, 1) := by decide +kernel
theorem dX5_isBetter_80 : decode cX5_isBetter 80 = .ok (.if_icmp .eq 24, 3) := by decide +kernel
theorem dX5_isBetter_83 : decode cX5_isBetter 83 = .ok (.aload_n 0, 1) := by decide +kernel
theorem dX5_isBetter_84 : decode cX5_isBetter 84 = .ok (.getfield 38, 3) := by decide +kernel
theorem dX5_isBetter_87 : decode cX5_isBetter 87 = .ok (.iload_n 3, 1) := by decide +kernel
theorem dX5_isBetter_88 : decode cX5_isBetter 88 = .ok (.iaload, 1) := by decide +kernel
theorem dX5_isBetter_89 : decode cX5_isBetter 89 = .ok (.aload_n 0, 1) := by decide +kernel
theorem dX5_isBetter_90 : decode cX5_isBetter 90 = .ok (.getfield 35, 3) := by decide +kernel
theorem dX5_isBetter_93 : decode cX5_isBetter 93 = .ok (.iload_n 3, 1) := by decide +kernel
theorem dX5_isBetter_94 : decode cX5_isBetter 94 = .ok (.iaload, 1) := by decide +kernel
theorem dX5_isBetter_95 : decode cX5_isBetter 95 = .ok (.if_icmp .ge 7, 3) := by decide +kernel
theorem dX5_isBetter_98 : decode cX5_isBetter 98 = .ok (.iconst 1, 1) := by decide +kernel
theorem dX5_isBetter_99 : decode cX5_isBetter 99 = .ok (.goto 4, 3) := by decide +kernel
theorem dX5_isBetter_102 : decode cX5_isBetter 102 = .ok (.iconst 0, 1) := by decide +kernel
theorem dX5_isBetter_103 : decode cX5_isBetter 103 = .ok (.ireturn, 1) := by decide +kernel
theorem dX5_isBetter_104 : decode cX5_isBetter 104 = .ok (.iinc 3 1, 3) := by decide +kernel
theorem dX5_isBetter_107 : decode cX5_isBetter 107 = .ok (.goto (-47), 3) := by decide +kernel
theorem dX5_isBetter_110 : decode cX5_isBetter 110 = .ok (.iconst 0, 1) := by decide +kernel
theorem dX5_isBetter_111 : decode cX5_isBetter 111 = .ok (.ireturn, 1) := by decide +kernel
theorem dX5_find_0 : decode cX5_find 0 = .ok (.iconst 1, 1) := by decide +kernel
theorem dX5_find_1 : decode cX5_find 1 = .ok (.istore_n 2, 1) := by decide +kernel
theorem dX5_find_2 : decode cX5_find 2 = .ok (.iconst 0, 1) := by decide +kernel
theorem dX5_find_3 : decode cX5_find 3 = .ok (.istore_n 3, 1) := by decide +kernel
theorem dX5_find_4 : decode cX5_find 4 = .ok (.iload_n 3, 1) := by decide +kernel
theorem dX5_find_5 : decode cX5_find 5 = .ok (.aload_n 0, 1) := by decide +kernel
theorem dX5_find_6 : decode cX5_find 6 = .ok (.getfield 59, 3) := by decide +kernel
theorem dX5_find_9 : decode cX5_find 9 = .ok (.if_icmp .ge 75, 3) := by decide +kernel
theorem dX5_find_12 : decode cX5_find 12 = .ok (.aload_n 0, 1) := by decide +kernel
theorem dX5_find_13 : decode cX5_find 13 = .ok (.iload_n 3, 1) := by decide +kernel
theorem dX5_find_14 : decode cX5_find 14 = .ok (.iload_n 1, 1) := by decide +kernel
theorem dX5_find_15 : decode cX5_find 15 = .ok (.invokevirtual 79, 3) := by decide +kernel
theorem dX5_find_18 : decode cX5_find 18 = .ok (.istore 4, 2) := by decide +kernel
theorem dX5_find_20 : decode cX5_find 20 = .ok (.aload_n 0, 1) := by decide +kernel
theorem dX5_find_21 : decode cX5_find 21 = .ok (.iconst 3, 1) := by decide +kernel
theorem dX5_find_22 : decode cX5_find 22 = .ok (.iload_n 3, 1) := by decide +kernel
theorem dX5_find_23 : decode cX5_find 23 = .ok (.imul, 1) := by decide +kernel
theorem dX5_find_24 : decode cX5_find 24 = .ok (.iload 4, 2) := by decide +kernel
theorem dX5_find_26 : decode cX5_find 26 = .ok (.ifCond .le 7, 3) := by decide +kernel
theorem dX5_find_29 : decode cX5_find 29 = .ok (.iconst 0, 1) := by decide +kernel
theorem dX5_find_30 : decode cX5_find 30 = .ok (.goto 7, 3) := by decide +kernel
theorem dX5_find_33 : decode cX5_find 33 = .ok (.iconst 1, 1) := by decide +kernel
theorem dX5_find_34 : decode cX5_find 34 = .ok (.iload 4, 2) := by decide +kernel
theorem dX5_find_36 : decode cX5_find 36 = .ok (.isub, 1) := by decide +kernel
theorem dX5_find_37 : decode cX5_find 37 = .ok (.invokevirtual 105, 3) := by decide +kernel
theorem dX5_find_40 : decode cX5_find 40 = .ok (.aload_n 0, 1) := by decide +kernel
theorem dX5_find_41 : decode cX5_find 41 = .ok (.iconst 3, 1) := by decide +kernel
theorem dX5_find_42 : decode cX5_find 42 = .ok (.iload_n 3, 1) := by decide +kernel
theorem dX5_find_43 : decode cX5_find 43 = .ok (.imul, 1) := by decide +kernel
theorem dX5_find_44 : decode cX5_find 44 = .ok (.iconst 1, 1) := by decide +kernel
theorem dX5_find_45 : decode cX5_find 45 = .ok (.iadd, 1) := by decide +kernel
theorem dX5_find_46 : decode cX5_find 46 = .ok (.iload 4, 2) := by decide +kernel
theorem dX5_find_48 : decode cX5_find 48 = .ok (.ineg, 1) := by decide +kernel
theorem dX5_find_49 : decode cX5_find 49 = .ok (.invokevirtual 105, 3) := by decide +kernel
theorem dX5_find_52 : decode cX5_find 52 = .ok (.aload_n 0, 1) := by decide +kernel
theorem dX5_find_53 : decode cX5_find 53 = .ok (.iconst 3, 1) := by decide +kernel
theorem dX5_find_54 : decode cX5_find 54 = .ok (.iload_n 3, 1) := by decide +kernel
theorem dX5_find_55 : decode cX5_find 55 = .ok (.imul, 1) := by decide +kernel
theorem dX5_find_56 : decode cX5_find 56 = .ok (.iconst 2, 1) := by decide +kernel
theorem dX5_find_57 : decode cX5_find 57 = .ok (.iadd, 1) := by decide +kernel
theorem dX5_find_58 : decode cX5_find 58 = .ok (.iload 4, 2) := by decide +kernel
theorem dX5_find_60 : decode cX5_find 60 = .ok (.ifCond .ge 7, 3) := by decide +kernel
theorem dX5_find_63 : decode cX5_find 63 = .ok (.iconst 0, 1) := by decide +kernel
theorem dX5_find_64 : decode cX5_find 64 = .ok (.goto 7, 3) := by decide +kernel
theorem dX5_find_67 : decode cX5_find 67 = .ok (.iconst (-1), 1) := by decide +kernel
theorem dX5_find_68 : decode cX5_find 68 = .ok (.iload 4, 2) := by decide +kernel
theorem dX5_find_70 : decode cX5_find 70 = .ok (.isub, 1) := by decide +kernel
theorem dX5_find_71 : decode cX5_find 71 = .ok (.invokevirtual 105, 3) := by decide +kernel
theorem dX5_find_74 : decode cX5_find 74 = .ok (.iload_n 2, 1) := by decide +kernel
theorem dX5_find_75 : decode cX5_find 75 = .ok (.iconst 3, 1) := by decide +kernel
theorem dX5_find_76 : decode cX5_find 76 = .ok (.imul, 1) := by decide +kernel
theorem dX5_find_77 : decode cX5_find 77 = .ok (.istore_n 2, 1) := by decide +kernel
theorem dX5_find_78 : decode cX5_find 78 = .ok (.iinc 3 1, 3) := by decide +kernel
theorem dX5_find_81 : decode cX5_find 81 = .ok (.goto (-77), 3) := by decide +kernel
theorem dX5_find_84 : decode cX5_find 84 = .ok (.aload_n 0, 1) := by decide +kernel
theorem dX5_find_85 : decode cX5_find 85 = .ok (.iconst 0, 1) := by decide +kernel
theorem dX5_find_86 : decode cX5_find 86 = .ok (.putfield 95, 3) := by decide +kernel
theorem dX5_find_89 : decode cX5_find 89 = .ok (.iconst 0, 1) := by decide +kernel
theorem dX5_find_90 : decode cX5_find 90 = .ok (.istore_n 3, 1) := by decide +kernel
theorem dX5_find_91 : decode cX5_find 91 = .ok (.iload_n 3, 1) := by decide +kernel
theorem dX5_find_92 : decode cX5_find 92 = .ok (.iload_n 2, 1) := by decide +kernel
theorem dX5_find_93 : decode cX5_find 93 = .ok (.if_icmp .ge 245, 3) := by decide +kernel
theorem dX5_find_96 : decode cX5_find 96 = .ok (.iload_n 3, 1) := by decide +kernel
theorem dX5_find_97 : decode cX5_find 97 = .ok (.istore 4, 2) := by decide +kernel
theorem dX5_find_99 : decode cX5_find 99 = .ok (.iconst 0, 1) := by decide +kernel
theorem dX5_find_100 : decode cX5_find 100 = .ok (.istore 5, 2) := by decide +kernel
theorem dX5_find_102 : decode cX5_find 102 = .ok (.iconst 0, 1) := by decide +kernel
theorem dX5_find_103 : decode cX5_find 103 = .ok (.istore 6, 2) := by decide +kernel
theorem dX5_find_105 : decode cX5_find 105 = .ok (.iconst 1, 1) := by decide +kernel
theorem dX5_find_106 : decode cX5_find 106 = .ok (.istore 7, 2) := by decide +kernel
theorem dX5_find_108 : decode cX5_find 108 = .ok (.iconst 0, 1) := by decide +kernel
theorem dX5_find_109 : decode cX5_find 109 = .ok (.istore 8, 2) := by decide +kernel
theorem dX5_find_111 : decode cX5_find 111 = .ok (.iload 8, 2) := by decide +kernel
theorem dX5_find_113 : decode cX5_find 113 = .ok (.aload_n 0, 1) := by decide +kernel
theorem dX5_find_114 : decode cX5_find 114 = .ok (.getfield 59, 3) := by decide +kernel
theorem dX5_find_117 : decode cX5_find 117 = .ok (.if_icmp .ge 139, 3) := by decide +kernel
theorem dX5_find_120 : decode cX5_find 120 = .ok (.iload 4, 2) := by decide +kernel
theorem dX5_find_122 : decode cX5_find 122 = .ok (.iconst 3, 1) := by decide +kernel
theorem dX5_find_123 : decode cX5_find 123 = .ok (.irem, 1) := by decide +kernel
theorem dX5_find_124 : decode cX5_find 124 = .ok (.istore 9, 2) := by decide +kernel
theorem dX5_find_126 : decode cX5_find 126 = .ok (.iload 4, 2) := by decide +kernel
theorem dX5_find_128 : decode cX5_find 128 = .ok (.iconst 3, 1) := by decide +kernel
theorem dX5_find_129 : decode cX5_find 129 = .ok (.idiv, 1) := by decide +kernel
theorem dX5_find_130 : decode cX5_find 130 = .ok (.istore 4, 2) := by decide +kernel
theorem dX5_find_132 : decode cX5_find 132 = .ok (.aload_n 0, 1) := by decide +kernel
theorem dX5_find_133 : decode cX5_find 133 = .ok (.getfield 29, 3) := by decide +kernel
theorem dX5_find_136 : decode cX5_find 136 = .ok (.iconst 3, 1) := by decide +kernel
theorem dX5_find_137 : decode cX5_find 137 = .ok (.iload 8, 2) := by decide +kernel
theorem dX5_find_139 : decode cX5_find 139 = .ok (.imul, 1) := by decide +kernel
theorem dX5_find_140 : decode cX5_find 140 = .ok (.iload 9, 2) := by decide +kernel
theorem dX5_find_142 : decode cX5_find 142 = .ok (.iadd, 1) := by decide +kernel
theorem dX5_find_143 : decode cX5_find 143 = .ok (.iaload, 1) := by decide +kernel
theorem dX5_find_144 : decode cX5_find 144 = .ok (.istore 10, 2) := by decide +kernel
theorem dX5_find_146 : decode cX5_find 146 = .ok (.iload 7, 2) := by decide +kernel
theorem dX5_find_148 : decode cX5_find 148 = .ok (.ifCond .eq 22, 3) := by decide +kernel
theorem dX5_find_151 : decode cX5_find 151 = .ok (.aload_n 0, 1) := by decide +kernel
theorem dX5_find_152 : decode cX5_find 152 = .ok (.getfield 32, 3) := by decide +kernel
theorem dX5_find_155 : decode cX5_find 155 = .ok (.iconst 3, 1) := by decide +kernel
theorem dX5_find_156 : decode cX5_find 156 = .ok (.iload 8, 2) := by decide +kernel
theorem dX5_find_158 : decode cX5_find 158 = .ok (.imul, 1) := by decide +kernel
theorem dX5_find_159 : decode cX5_find 159 = .ok (.iload 9, 2) := by decide +kernel
theorem dX5_find_161 : decode cX5_find 161 = .ok (.iadd, 1) := by decide +kernel
theorem dX5_find_162 : decode cX5_find 162 = .ok (.baload, 1) := by decide +kernel
theorem dX5_find_163 : decode cX5_find 163 = .ok (.ifCond .eq 7, 3) := by decide +kernel
theorem dX5_find_166 : decode cX5_find 166 = .ok (.iconst 1, 1) := by decide +kernel
theorem dX5_find_167 : decode cX5_find 167 = .ok (.goto 4, 3) := by decide +kernel
theorem dX5_find_170 : decode cX5_find 170 = .ok (.iconst 0, 1) := by decide +kernel
theorem dX5_find_171 : decode cX5_find 171 = .ok (.istore 7, 2) := by decide +kernel
theorem dX5_find_173 : decode cX5_find 173 = .ok (.aload_n 0, 1) := by decide +kernel
theorem dX5_find_174 : decode cX5_find 174 = .ok (.getfield 38, 3) := by decide +kernel
theorem dX5_find_177 : decode cX5_find 177 = .ok (.iload 8, 2) := by decide +kernel
theorem dX5_find_179 : decode cX5_find 179 = .ok (.iload 10, 2) := by decide +kernel
theorem dX5_find_181 : decode cX5_find 181 = .ok (.iastore, 1) := by decide +kernel
theorem dX5_find_182 : decode cX5_find 182 = .ok (.iload 6, 2) := by decide +kernel
theorem dX5_find_184 : decode cX5_find 184 = .ok (.iload 7, 2) := by decide +kernel
theorem dX5_find_186 : decode cX5_find 186 = .ok (.ifCond .eq 11, 3) := by decide +kernel
theorem dX5_find_189 : decode cX5_find 189 = .ok (.iload 10, 2) := by decide +kernel
theorem dX5_find_191 : decode cX5_find 191 = .ok (.iload 10, 2) := by decide +kernel
theorem dX5_find_193 : decode cX5_find 193 = .ok (.imul, 1) := by decide +kernel
theorem dX5_find_194 : decode cX5_find 194 = .ok (.goto 4, 3) := by decide +kernel
theorem dX5_find_197 : decode cX5_find 197 = .ok (.iconst 0, 1) := by decide +kernel
theorem dX5_find_198 : decode cX5_find 198 = .ok (.iadd, 1) := by decide +kernel
theorem dX5_find_199 : decode cX5_find 199 = .ok (.istore 6, 2) := by decide +kernel
theorem dX5_find_201 : decode cX5_find 201 = .ok (.iload 5, 2) := by decide +kernel
theorem dX5_find_203 : decode cX5_find 203 = .ok (.iload 9, 2) := by decide +kernel
theorem dX5_find_205 : decode cX5_find 205 = .ok (.ifCond .ne 20, 3) := by decide +kernel
theorem dX5_find_208 : decode cX5_find 208 = .ok (.iconst 2, 1) := by decide +kernel
theorem dX5_find_209 : decode cX5_find 209 = .ok (.aload_n 0, 1) := by decide +kernel
theorem dX5_find_210 : decode cX5_find 210 = .ok (.getfield 20, 3) := by decide +kernel
theorem dX5_find_213 : decode cX5_find 213 = .ok (.bipush 6, 2) := by decide +kernel
theorem dX5_find_215 : decode cX5_find 215 = .ok (.iload_n 1, 1) := by decide +kernel
theorem dX5_find_216 : decode cX5_find 216 = .ok (.imul, 1) := by decide +kernel
theorem dX5_find_217 : decode cX5_find 217 = .ok (.iload 8, 2) := by decide +kernel
theorem dX5_find_219 : decode cX5_find 219 = .ok (.iadd, 1) := by decide +kernel
theorem dX5_find_220 : decode cX5_find 220 = .ok (.iaload, 1) := by decide +kernel
theorem dX5_find_221 : decode cX5_find 221 = .ok (.imul, 1) := by decide +kernel
theorem dX5_find_222 : decode cX5_find 222 = .ok (.goto 25, 3) := by decide +kernel
theorem dX5_find_225 : decode cX5_find 225 = .ok (.iload 9, 2) := by decide +kernel
theorem dX5_find_227 : decode cX5_find 227 = .ok (.iconst 1, 1) := by decide +kernel
theorem dX5_find_228 : decode cX5_find 228 = .ok (.if_icmp .ne 18, 3) := by decide +kernel
theorem dX5_find_231 : decode cX5_find 231 = .ok (.aload_n 0, 1) := by decide +kernel
theorem dX5_find_232 : decode cX5_find 232 = .ok (.getfield 20, 3) := by decide +kernel
theorem dX5_find_235 : decode cX5_find 235 = .ok (.bipush 6, 2) := by decide +kernel
theorem dX5_find_237 : decode cX5_find 237 = .ok (.iload_n 1, 1) := by decide +kernel
theorem dX5_find_238 : decode cX5_find 238 = .ok (.imul, 1) := by decide +kernel
theorem dX5_find_239 : decode cX5_find 239 = .ok (.iload 8, 2) := by decide +kernel
theorem dX5_find_241 : decode cX5_find 241 = .ok (.iadd, 1) := by decide +kernel
theorem dX5_find_242 : decode cX5_find 242 = .ok (.iaload, 1) := by decide +kernel
theorem dX5_find_243 : decode cX5_find 243 = .ok (.goto 4, 3) := by decide +kernel
theorem dX5_find_246 : decode cX5_find 246 = .ok (.iconst 0, 1) := by decide +kernel
theorem dX5_find_247 : decode cX5_find 247 = .ok (.iadd, 1) := by decide +kernel
theorem dX5_find_248 : decode cX5_find 248 = .ok (.istore 5, 2) := by decide +kernel
theorem dX5_find_250 : decode cX5_find 250 = .ok (.iinc 8 1, 3) := by decide +kernel
theorem dX5_find_253 : decode cX5_find 253 = .ok (.goto (-142), 3) := by decide +kernel
theorem dX5_find_256 : decode cX5_find 256 = .ok (.iload 7, 2) := by decide +kernel
theorem dX5_find_258 : decode cX5_find 258 = .ok (.ifCond .eq 74, 3) := by decide +kernel
theorem dX5_find_261 : decode cX5_find 261 = .ok (.iload 6, 2) := by decide +kernel
theorem dX5_find_263 : decode cX5_find 263 = .ok (.aload_n 0, 1) := by decide +kernel
theorem dX5_find_264 : decode cX5_find 264 = .ok (.getfield 7, 3) := by decide +kernel
theorem dX5_find_267 : decode cX5_find 267 = .ok (.iload_n 1, 1) := by decide +kernel
theorem dX5_find_268 : decode cX5_find 268 = .ok (.iaload, 1) := by decide +kernel
theorem dX5_find_269 : decode cX5_find 269 = .ok (.if_icmp .gt 63, 3) := by decide +kernel
theorem dX5_find_272 : decode cX5_find 272 = .ok (.aload_n 0, 1) := by decide +kernel
theorem dX5_find_273 : decode cX5_find 273 = .ok (.iload 5, 2) := by decide +kernel
theorem dX5_find_275 : decode cX5_find 275 = .ok (.iload 6, 2) := by decide +kernel
theorem dX5_find_277 : decode cX5_find 277 = .ok (.invokevirtual 109, 3) := by decide +kernel
theorem dX5_find_280 : decode cX5_find 280 = .ok (.ifCond .eq 52, 3) := by decide +kernel
theorem dX5_find_283 : decode cX5_find 283 = .ok (.aload_n 0, 1) := by decide +kernel
theorem dX5_find_284 : decode cX5_find 284 = .ok (.iconst 1, 1) := by decide +kernel
theorem dX5_find_285 : decode cX5_find 285 = .ok (.putfield 95, 3) := by decide +kernel
theorem dX5_find_288 : decode cX5_find 288 = .ok (.aload_n 0, 1) := by decide +kernel
theorem dX5_find_289 : decode cX5_find 289 = .ok (.iload 5, 2) := by decide +kernel
theorem dX5_find_291 : decode cX5_find 291 = .ok (.putfield 99, 3) := by decide +kernel
theorem dX5_find_294 : decode cX5_find 294 = .ok (.aload_n 0, 1) := by decide +kernel
theorem dX5_find_295 : decode cX5_find 295 = .ok (.iload 6, 2) := by decide +kernel
theorem dX5_find_297 : decode cX5_find 297 = .ok (.putfield 102, 3) := by decide +kernel
theorem dX5_find_300 : decode cX5_find 300 = .ok (.iconst 0, 1) := by decide +kernel
theorem dX5_find_301 : decode cX5_find 301 = .ok (.istore 8, 2) := by decide +kernel
theorem dX5_find_303 : decode cX5_find 303 = .ok (.iload 8, 2) := by decide +kernel
theorem dX5_find_305 : decode cX5_find 305 = .ok (.aload_n 0, 1) := by decide +kernel
theorem dX5_find_306 : decode cX5_find 306 = .ok (.getfield 59, 3) := by decide +kernel
theorem dX5_find_309 : decode cX5_find 309 = .ok (.if_icmp .ge 23, 3) := by decide +kernel
theorem dX5_find_312 : decode cX5_find 312 = .ok (.aload_n 0, 1) := by decide +kernel
theorem dX5_find_313 : decode cX5_find 313 = .ok (.getfield 35, 3) := by decide +kernel
theorem dX5_find_316 : decode cX5_find 316 = .ok (.iload 8, 2) := by decide +kernel
theorem dX5_find_318 : decode cX5_find 318 = .ok (.aload_n 0, 1) := by decide +kernel
theorem dX5_find_319 : decode cX5_find 319 = .ok (.getfield 38, 3) := by decide +kernel
theorem dX5_find_322 : decode cX5_find 322 = .ok (.iload 8, 2) := by decide +kernel
theorem dX5_find_324 : decode cX5_find 324 = .ok (.iaload, 1) := by decide +kernel
theorem dX5_find_325 : decode cX5_find 325 = .ok (.iastore, 1) := by decide +kernel
theorem dX5_find_326 : decode cX5_find 326 = .ok (.iinc 8 1, 3) := by decide +kernel
theorem dX5_find_329 : decode cX5_find 329 = .ok (.goto (-26), 3) := by decide +kernel
theorem dX5_find_332 : decode cX5_find 332 = .ok (.iinc 3 1, 3) := by decide +kernel
theorem dX5_find_335 : decode cX5_find 335 = .ok (.goto (-244), 3) := by decide +kernel
theorem dX5_find_338 : decode cX5_find 338 = .ok (.return_, 1) := by decide +kernel
theorem dX5_best_0 : decode cX5_best 0 = .ok (.aload_n 0, 1) := by decide +kernel
theorem dX5_best_1 : decode cX5_best 1 = .ok (.iload_n 1, 1) := by decide +kernel
theorem dX5_best_2 : decode cX5_best 2 = .ok (.invokevirtual 68, 3) := by decide +kernel
theorem dX5_best_5 : decode cX5_best 5 = .ok (.ifCond .ne 6, 3) := by decide +kernel
theorem dX5_best_8 : decode cX5_best 8 = .ok (.ldc 94, 2) := by decide +kernel
theorem dX5_best_10 : decode cX5_best 10 = .ok (.ireturn, 1) := by decide +kernel
theorem dX5_best_11 : decode cX5_best 11 = .ok (.aload_n 0, 1) := by decide +kernel
theorem dX5_best_12 : decode cX5_best 12 = .ok (.iload_n 1, 1) := by decide +kernel
theorem dX5_best_13 : decode cX5_best 13 = .ok (.invokevirtual 113, 3) := by decide +kernel
theorem dX5_best_16 : decode cX5_best 16 = .ok (.aload_n 0, 1) := by decide +kernel
theorem dX5_best_17 : decode cX5_best 17 = .ok (.getfield 99, 3) := by decide +kernel
theorem dX5_best_20 : decode cX5_best 20 = .ok (.ireturn, 1) := by decide +kernel
theorem dX5_answer_0 : decode cX5_answer 0 = .ok (.aload_n 0, 1) := by decide +kernel
theorem dX5_answer_1 : decode cX5_answer 1 = .ok (.iload_n 1, 1) := by decide +kernel
theorem dX5_answer_2 : decode cX5_answer 2 = .ok (.invokevirtual 68, 3) := by decide +kernel
theorem dX5_answer_5 : decode cX5_answer 5 = .ok (.ifCond .eq 11, 3) := by decide +kernel
theorem dX5_answer_8 : decode cX5_answer 8 = .ok (.aload_n 0, 1) := by decide +kernel
theorem dX5_answer_9 : decode cX5_answer 9 = .ok (.iload_n 2, 1) := by decide +kernel
theorem dX5_answer_10 : decode cX5_answer 10 = .ok (.invokevirtual 72, 3) := by decide +kernel
theorem dX5_answer_13 : decode cX5_answer 13 = .ok (.ifCond .ne 7, 3) := by decide +kernel
theorem dX5_answer_16 : decode cX5_answer 16 = .ok (.sipush (-2000), 3) := by decide +kernel
theorem dX5_answer_19 : decode cX5_answer 19 = .ok (.ireturn, 1) := by decide +kernel
theorem dX5_answer_20 : decode cX5_answer 20 = .ok (.aload_n 0, 1) := by decide +kernel
theorem dX5_answer_21 : decode cX5_answer 21 = .ok (.iload_n 1, 1) := by decide +kernel
theorem dX5_answer_22 : decode cX5_answer 22 = .ok (.invokevirtual 113, 3) := by decide +kernel
theorem dX5_answer_25 : decode cX5_answer 25 = .ok (.aload_n 0, 1) := by decide +kernel
theorem dX5_answer_26 : decode cX5_answer 26 = .ok (.getfield 35, 3) := by decide +kernel
theorem dX5_answer_29 : decode cX5_answer 29 = .ok (.iload_n 2, 1) := by decide +kernel
theorem dX5_answer_30 : decode cX5_answer 30 = .ok (.iaload, 1) := by decide +kernel
theorem dX5_answer_31 : decode cX5_answer 31 = .ok (.ireturn, 1) := by decide +kernel
theorem dX5_adopt_0 : decode cX5_adopt 0 = .ok (.iconst 0, 1) := by decide +kernel
theorem dX5_adopt_1 : decode cX5_adopt 1 = .ok (.istore_n 2, 1) := by decide +kernel
theorem dX5_adopt_2 : decode cX5_adopt 2 = .ok (.iload_n 2, 1) := by decide +kernel
theorem dX5_adopt_3 : decode cX5_adopt 3 = .ok (.aload_n 0, 1) := by decide +kernel
theorem dX5_adopt_4 : decode cX5_adopt 4 = .ok (.getfield 59, 3) := by decide +kernel
theorem dX5_adopt_7 : decode cX5_adopt 7 = .ok (.if_icmp .ge 26, 3) := by decide +kernel
theorem dX5_adopt_10 : decode cX5_adopt 10 = .ok (.aload_n 0, 1) := by decide +kernel
theorem dX5_adopt_11 : decode cX5_adopt 11 = .ok (.getfield 17, 3) := by decide +kernel
theorem dX5_adopt_14 : decode cX5_adopt 14 = .ok (.bipush 6, 2) := by decide +kernel
theorem dX5_adopt_16 : decode cX5_adopt 16 = .ok (.iload_n 1, 1) := by decide +kernel
theorem dX5_adopt_17 : decode cX5_adopt 17 = .ok (.imul, 1) := by decide +kernel
theorem dX5_adopt_18 : decode cX5_adopt 18 = .ok (.iload_n 2, 1) := by decide +kernel
theorem dX5_adopt_19 : decode cX5_adopt 19 = .ok (.iadd, 1) := by decide +kernel
theorem dX5_adopt_20 : decode cX5_adopt 20 = .ok (.aload_n 0, 1) := by decide +kernel
theorem dX5_adopt_21 : decode cX5_adopt 21 = .ok (.getfield 35, 3) := by decide +kernel
theorem dX5_adopt_24 : decode cX5_adopt 24 = .ok (.iload_n 2, 1) := by decide +kernel
theorem dX5_adopt_25 : decode cX5_adopt 25 = .ok (.iaload, 1) := by decide +kernel
theorem dX5_adopt_26 : decode cX5_adopt 26 = .ok (.iastore, 1) := by decide +kernel
theorem dX5_adopt_27 : decode cX5_adopt 27 = .ok (.iinc 2 1, 3) := by decide +kernel
theorem dX5_adopt_30 : decode cX5_adopt 30 = .ok (.goto (-28), 3) := by decide +kernel
theorem dX5_adopt_33 : decode cX5_adopt 33 = .ok (.return_, 1) := by decide +kernel
theorem dX5_take_0 : decode cX5_take 0 = .ok (.aload_n 0, 1) := by decide +kernel
theorem dX5_take_1 : decode cX5_take 1 = .ok (.iload_n 1, 1) := by decide +kernel
theorem dX5_take_2 : decode cX5_take 2 = .ok (.invokevirtual 68, 3) := by decide +kernel
theorem dX5_take_5 : decode cX5_take 5 = .ok (.ifCond .ne 6, 3) := by decide +kernel
theorem dX5_take_8 : decode cX5_take 8 = .ok (.bipush (-101), 2) := by decide +kernel
theorem dX5_take_10 : decode cX5_take 10 = .ok (.ireturn, 1) := by decide +kernel
theorem dX5_take_11 : decode cX5_take 11 = .ok (.aload_n 0, 1) := by decide +kernel
theorem dX5_take_12 : decode cX5_take 12 = .ok (.getfield 13, 3) := by decide +kernel
theorem dX5_take_15 : decode cX5_take 15 = .ok (.iload_n 1, 1) := by decide +kernel
theorem dX5_take_16 : decode cX5_take 16 = .ok (.baload, 1) := by decide +kernel
theorem dX5_take_17 : decode cX5_take 17 = .ok (.ifCond .ne 6, 3) := by decide +kernel
theorem dX5_take_20 : decode cX5_take 20 = .ok (.bipush (-103), 2) := by decide +kernel
theorem dX5_take_22 : decode cX5_take 22 = .ok (.ireturn, 1) := by decide +kernel
theorem dX5_take_23 : decode cX5_take 23 = .ok (.aload_n 0, 1) := by decide +kernel
theorem dX5_take_24 : decode cX5_take 24 = .ok (.iload_n 1, 1) := by decide +kernel
theorem dX5_take_25 : decode cX5_take 25 = .ok (.invokevirtual 113, 3) := by decide +kernel
theorem dX5_take_28 : decode cX5_take 28 = .ok (.aload_n 0, 1) := by decide +kernel
theorem dX5_take_29 : decode cX5_take 29 = .ok (.iload_n 1, 1) := by decide +kernel
theorem dX5_take_30 : decode cX5_take 30 = .ok (.invokevirtual 117, 3) := by decide +kernel
theorem dX5_take_33 : decode cX5_take 33 = .ok (.aload_n 0, 1) := by decide +kernel
theorem dX5_take_34 : decode cX5_take 34 = .ok (.iload_n 1, 1) := by decide +kernel
theorem dX5_take_35 : decode cX5_take 35 = .ok (.invokevirtual 75, 3) := by decide +kernel
theorem dX5_take_38 : decode cX5_take 38 = .ok (.ireturn, 1) := by decide +kernel
theorem dX5_isAsBehind_0 : decode cX5_isAsBehind 0 = .ok (.iconst 1, 1) := by decide +kernel
theorem dX5_isAsBehind_1 : decode cX5_isAsBehind 1 = .ok (.istore_n 2, 1) := by decide +kernel
theorem dX5_isAsBehind_2 : decode cX5_isAsBehind 2 = .ok (.iconst 0, 1) := by decide +kernel
theorem dX5_isAsBehind_3 : decode cX5_isAsBehind 3 = .ok (.istore_n 3, 1) := by decide +kernel
theorem dX5_isAsBehind_4 : decode cX5_isAsBehind 4 = .ok (.iload_n 3, 1) := by decide +kernel
theorem dX5_isAsBehind_5 : decode cX5_isAsBehind 5 = .ok (.bipush 72, 2) := by decide +kernel
theorem dX5_isAsBehind_7 : decode cX5_isAsBehind 7 = .ok (.if_icmp .ge 39, 3) := by decide +kernel
theorem dX5_isAsBehind_10 : decode cX5_isAsBehind 10 = .ok (.iload_n 2, 1) := by decide +kernel
theorem dX5_isAsBehind_11 : decode cX5_isAsBehind 11 = .ok (.ifCond .eq 27, 3) := by decide +kernel
theorem dX5_isAsBehind_14 : decode cX5_isAsBehind 14 = .ok (.aload_n 0, 1) := by decide +kernel
theorem dX5_isAsBehind_15 : decode cX5_isAsBehind 15 = .ok (.getfield 41, 3) := by decide +kernel
theorem dX5_isAsBehind_18 : decode cX5_isAsBehind 18 = .ok (.bipush 72, 2) := by decide +kernel
theorem dX5_isAsBehind_20 : decode cX5_isAsBehind 20 = .ok (.iload_n 1, 1) := by decide +kernel
theorem dX5_isAsBehind_21 : decode cX5_isAsBehind 21 = .ok (.imul, 1) := by decide +kernel
theorem dX5_isAsBehind_22 : decode cX5_isAsBehind 22 = .ok (.iload_n 3, 1) := by decide +kernel
theorem dX5_isAsBehind_23 : decode cX5_isAsBehind 23 = .ok (.iadd, 1) := by decide +kernel
theorem dX5_isAsBehind_24 : decode cX5_isAsBehind 24 = .ok (.iaload, 1) := by decide +kernel
theorem dX5_isAsBehind_25 : decode cX5_isAsBehind 25 = .ok (.aload_n 0, 1) := by decide +kernel
theorem dX5_isAsBehind_26 : decode cX5_isAsBehind 26 = .ok (.getfield 17, 3) := by decide +kernel
theorem dX5_isAsBehind_29 : decode cX5_isAsBehind 29 = .ok (.iload_n 3, 1) := by decide +kernel
theorem dX5_isAsBehind_30 : decode cX5_isAsBehind 30 = .ok (.iaload, 1) := by decide +kernel
theorem dX5_isAsBehind_31 : decode cX5_isAsBehind 31 = .ok (.if_icmp .ne 7, 3) := by decide +kernel
theorem dX5_isAsBehind_34 : decode cX5_isAsBehind 34 = .ok (.iconst 1, 1) := by decide +kernel
theorem dX5_isAsBehind_35 : decode cX5_isAsBehind 35 = .ok (.goto 4, 3) := by decide +kernel
theorem dX5_isAsBehind_38 : decode cX5_isAsBehind 38 = .ok (.iconst 0, 1) := by decide +kernel
theorem dX5_isAsBehind_39 : decode cX5_isAsBehind 39 = .ok (.istore_n 2, 1) := by decide +kernel
theorem dX5_isAsBehind_40 : decode cX5_isAsBehind 40 = .ok (.iinc 3 1, 3) := by decide +kernel
theorem dX5_isAsBehind_43 : decode cX5_isAsBehind 43 = .ok (.goto (-39), 3) := by decide +kernel
theorem dX5_isAsBehind_46 : decode cX5_isAsBehind 46 = .ok (.iload_n 2, 1) := by decide +kernel
theorem dX5_isAsBehind_47 : decode cX5_isAsBehind 47 = .ok (.ireturn, 1) := by decide +kernel
theorem dX5_keep_0 : decode cX5_keep 0 = .ok (.iconst 0, 1) := by decide +kernel
theorem dX5_keep_1 : decode cX5_keep 1 = .ok (.istore_n 2, 1) := by decide +kernel
theorem dX5_keep_2 : decode cX5_keep 2 = .ok (.iload_n 2, 1) := by decide +kernel
theorem dX5_keep_3 : decode cX5_keep 3 = .ok (.bipush 72, 2) := by decide +kernel
theorem dX5_keep_5 : decode cX5_keep 5 = .ok (.if_icmp .ge 26, 3) := by decide +kernel
theorem dX5_keep_8 : decode cX5_keep 8 = .ok (.aload_n 0, 1) := by decide +kernel
theorem dX5_keep_9 : decode cX5_keep 9 = .ok (.getfield 41, 3) := by decide +kernel
theorem dX5_keep_12 : decode cX5_keep 12 = .ok (.bipush 72, 2) := by decide +kernel
theorem dX5_keep_14 : decode cX5_keep 14 = .ok (.iload_n 1, 1) := by decide +kernel
theorem dX5_keep_15 : decode cX5_keep 15 = .ok (.imul, 1) := by decide +kernel
theorem dX5_keep_16 : decode cX5_keep 16 = .ok (.iload_n 2, 1) := by decide +kernel
theorem dX5_keep_17 : decode cX5_keep 17 = .ok (.iadd, 1) := by decide +kernel
theorem dX5_keep_18 : decode cX5_keep 18 = .ok (.aload_n 0, 1) := by decide +kernel
theorem dX5_keep_19 : decode cX5_keep 19 = .ok (.getfield 17, 3) := by decide +kernel
theorem dX5_keep_22 : decode cX5_keep 22 = .ok (.iload_n 2, 1) := by decide +kernel
theorem dX5_keep_23 : decode cX5_keep 23 = .ok (.iaload, 1) := by decide +kernel
theorem dX5_keep_24 : decode cX5_keep 24 = .ok (.iastore, 1) := by decide +kernel
theorem dX5_keep_25 : decode cX5_keep 25 = .ok (.iinc 2 1, 3) := by decide +kernel
theorem dX5_keep_28 : decode cX5_keep 28 = .ok (.goto (-26), 3) := by decide +kernel
theorem dX5_keep_31 : decode cX5_keep 31 = .ok (.return_, 1) := by decide +kernel
theorem dX5_play_0 : decode cX5_play 0 = .ok (.iload_n 1, 1) := by decide +kernel
theorem dX5_play_1 : decode cX5_play 1 = .ok (.iconst 1, 1) := by decide +kernel
theorem dX5_play_2 : decode cX5_play 2 = .ok (.bipush 30, 2) := by decide +kernel
theorem dX5_play_4 : decode cX5_play 4 = .ok (.invokestatic 55, 3) := by decide +kernel
theorem dX5_play_7 : decode cX5_play 7 = .ok (.ifCond .ne 6, 3) := by decide +kernel
theorem dX5_play_10 : decode cX5_play 10 = .ok (.bipush (-102), 2) := by decide +kernel
theorem dX5_play_12 : decode cX5_play 12 = .ok (.ireturn, 1) := by decide +kernel
theorem dX5_play_13 : decode cX5_play 13 = .ok (.aload_n 0, 1) := by decide +kernel
theorem dX5_play_14 : decode cX5_play 14 = .ok (.iconst 0, 1) := by decide +kernel
theorem dX5_play_15 : decode cX5_play 15 = .ok (.putfield 120, 3) := by decide +kernel
theorem dX5_play_18 : decode cX5_play 18 = .ok (.aload_n 0, 1) := by decide +kernel
theorem dX5_play_19 : decode cX5_play 19 = .ok (.iconst 0, 1) := by decide +kernel
theorem dX5_play_20 : decode cX5_play 20 = .ok (.putfield 123, 3) := by decide +kernel
theorem dX5_play_23 : decode cX5_play 23 = .ok (.aload_n 0, 1) := by decide +kernel
theorem dX5_play_24 : decode cX5_play 24 = .ok (.iconst 0, 1) := by decide +kernel
theorem dX5_play_25 : decode cX5_play 25 = .ok (.invokevirtual 126, 3) := by decide +kernel
theorem dX5_play_28 : decode cX5_play 28 = .ok (.iconst 0, 1) := by decide +kernel
theorem dX5_play_29 : decode cX5_play 29 = .ok (.istore_n 2, 1) := by decide +kernel
theorem dX5_play_30 : decode cX5_play 30 = .ok (.iload_n 2, 1) := by decide +kernel
theorem dX5_play_31 : decode cX5_play 31 = .ok (.iload_n 1, 1) := by decide +kernel
theorem dX5_play_32 : decode cX5_play 32 = .ok (.if_icmp .ge 152, 3) := by decide +kernel
theorem dX5_play_35 : decode cX5_play 35 = .ok (.aload_n 0, 1) := by decide +kernel
theorem dX5_play_36 : decode cX5_play 36 = .ok (.getfield 120, 3) := by decide +kernel
theorem dX5_play_39 : decode cX5_play 39 = .ok (.ifCond .ne 145, 3) := by decide +kernel
theorem dX5_play_42 : decode cX5_play 42 = .ok (.iinc 2 1, 3) := by decide +kernel
theorem dX5_play_45 : decode cX5_play 45 = .ok (.aload_n 0, 1) := by decide +kernel
theorem dX5_play_46 : decode cX5_play 46 = .ok (.dup, 1) := by decide +kernel
theorem dX5_play_47 : decode cX5_play 47 = .ok (.getfield 129, 3) := by decide +kernel
theorem dX5_play_50 : decode cX5_play 50 = .ok (.iconst 1, 1) := by decide +kernel
theorem dX5_play_51 : decode cX5_play 51 = .ok (.iadd, 1) := by decide +kernel
theorem dX5_play_52 : decode cX5_play 52 = .ok (.putfield 129, 3) := by decide +kernel
theorem dX5_play_55 : decode cX5_play 55 = .ok (.iconst 0, 1) := by decide +kernel
theorem dX5_play_56 : decode cX5_play 56 = .ok (.istore_n 3, 1) := by decide +kernel
theorem dX5_play_57 : decode cX5_play 57 = .ok (.iconst 0, 1) := by decide +kernel
theorem dX5_play_58 : decode cX5_play 58 = .ok (.istore 4, 2) := by decide +kernel
theorem dX5_play_60 : decode cX5_play 60 = .ok (.iload 4, 2) := by decide +kernel
theorem dX5_play_62 : decode cX5_play 62 = .ok (.aload_n 0, 1) := by decide +kernel
theorem dX5_play_63 : decode cX5_play 63 = .ok (.getfield 51, 3) := by decide +kernel
theorem dX5_play_66 : decode cX5_play 66 = .ok (.if_icmp .ge 56, 3) := by decide +kernel
theorem dX5_play_69 : decode cX5_play 69 = .ok (.aload_n 0, 1) := by decide +kernel
theorem dX5_play_70 : decode cX5_play 70 = .ok (.getfield 13, 3) := by decide +kernel
theorem dX5_play_73 : decode cX5_play 73 = .ok (.iload 4, 2) := by decide +kernel
theorem dX5_play_75 : decode cX5_play 75 = .ok (.baload, 1) := by decide +kernel
theorem dX5_play_76 : decode cX5_play 76 = .ok (.ifCond .eq 40, 3) := by decide +kernel
theorem dX5_play_79 : decode cX5_play 79 = .ok (.aload_n 0, 1) := by decide +kernel
theorem dX5_play_80 : decode cX5_play 80 = .ok (.iload 4, 2) := by decide +kernel
theorem dX5_play_82 : decode cX5_play 82 = .ok (.invokevirtual 113, 3) := by decide +kernel
theorem dX5_play_85 : decode cX5_play 85 = .ok (.aload_n 0, 1) := by decide +kernel
theorem dX5_play_86 : decode cX5_play 86 = .ok (.getfield 99, 3) := by decide +kernel
theorem dX5_play_89 : decode cX5_play 89 = .ok (.aload_n 0, 1) := by decide +kernel
theorem dX5_play_90 : decode cX5_play 90 = .ok (.iload 4, 2) := by decide +kernel
theorem dX5_play_92 : decode cX5_play 92 = .ok (.invokevirtual 91, 3) := by decide +kernel
theorem dX5_play_95 : decode cX5_play 95 = .ok (.if_icmp .le 21, 3) := by decide +kernel
theorem dX5_play_98 : decode cX5_play 98 = .ok (.aload_n 0, 1) := by decide +kernel
theorem dX5_play_99 : decode cX5_play 99 = .ok (.iload 4, 2) := by decide +kernel
theorem dX5_play_101 : decode cX5_play 101 = .ok (.invokevirtual 117, 3) := by decide +kernel
theorem dX5_play_104 : decode cX5_play 104 = .ok (.aload_n 0, 1) := by decide +kernel
theorem dX5_play_105 : decode cX5_play 105 = .ok (.dup, 1) := by decide +kernel
theorem dX5_play_106 : decode cX5_play 106 = .ok (.getfield 132, 3) := by decide +kernel
theorem dX5_play_109 : decode cX5_play 109 = .ok (.iconst 1, 1) := by decide +kernel
theorem dX5_play_110 : decode cX5_play 110 = .ok (.iadd, 1) := by decide +kernel
theorem dX5_play_111 : decode cX5_play 111 = .ok (.putfield 132, 3) := by decide +kernel
theorem dX5_play_114 : decode cX5_play 114 = .ok (.iconst 1, 1) := by decide +kernel
theorem dX5_play_115 : decode cX5_play 115 = .ok (.istore_n 3, 1) := by decide +kernel
theorem dX5_play_116 : decode cX5_play 116 = .ok (.iinc 4 1, 3) := by decide +kernel
theorem dX5_play_119 : decode cX5_play 119 = .ok (.goto (-59), 3) := by decide +kernel
theorem dX5_play_122 : decode cX5_play 122 = .ok (.iload_n 3, 1) := by decide +kernel
theorem dX5_play_123 : decode cX5_play 123 = .ok (.ifCond .ne 8, 3) := by decide +kernel
theorem dX5_play_126 : decode cX5_play 126 = .ok (.aload_n 0, 1) := by decide +kernel
theorem dX5_play_127 : decode cX5_play 127 = .ok (.iconst 1, 1) := by decide +kernel
theorem dX5_play_128 : decode cX5_play 128 = .ok (.putfield 120, 3) := by decide +kernel
theorem dX5_play_131 : decode cX5_play 131 = .ok (.iload_n 2, 1) := by decide +kernel
theorem dX5_play_132 : decode cX5_play 132 = .ok (.iconst 1, 1) := by decide +kernel
theorem dX5_play_133 : decode cX5_play 133 = .ok (.isub, 1) := by decide +kernel
theorem dX5_play_134 : decode cX5_play 134 = .ok (.istore 4, 2) := by decide +kernel
theorem dX5_play_136 : decode cX5_play 136 = .ok (.iload 4, 2) := by decide +kernel
theorem dX5_play_138 : decode cX5_play 138 = .ok (.ifCond .lt 38, 3) := by decide +kernel
theorem dX5_play_141 : decode cX5_play 141 = .ok (.aload_n 0, 1) := by decide +kernel
theorem dX5_play_142 : decode cX5_play 142 = .ok (.getfield 120, 3) := by decide +kernel
theorem dX5_play_145 : decode cX5_play 145 = .ok (.ifCond .ne 31, 3) := by decide +kernel
theorem dX5_play_148 : decode cX5_play 148 = .ok (.aload_n 0, 1) := by decide +kernel
theorem dX5_play_149 : decode cX5_play 149 = .ok (.iload 4, 2) := by decide +kernel
theorem dX5_play_151 : decode cX5_play 151 = .ok (.invokevirtual 135, 3) := by decide +kernel
theorem dX5_play_154 : decode cX5_play 154 = .ok (.ifCond .eq 16, 3) := by decide +kernel
theorem dX5_play_157 : decode cX5_play 157 = .ok (.aload_n 0, 1) := by decide +kernel
theorem dX5_play_158 : decode cX5_play 158 = .ok (.iconst 2, 1) := by decide +kernel
theorem dX5_play_159 : decode cX5_play 159 = .ok (.putfield 120, 3) := by decide +kernel
theorem dX5_play_162 : decode cX5_play 162 = .ok (.aload_n 0, 1) := by decide +kernel
theorem dX5_play_163 : decode cX5_play 163 = .ok (.iload_n 2, 1) := by decide +kernel
theorem dX5_play_164 : decode cX5_play 164 = .ok (.iload 4, 2) := by decide +kernel
theorem dX5_play_166 : decode cX5_play 166 = .ok (.isub, 1) := by decide +kernel
theorem dX5_play_167 : decode cX5_play 167 = .ok (.putfield 123, 3) := by decide +kernel
theorem dX5_play_170 : decode cX5_play 170 = .ok (.iinc 4 (-1), 3) := by decide +kernel
theorem dX5_play_173 : decode cX5_play 173 = .ok (.goto (-37), 3) := by decide +kernel
theorem dX5_play_176 : decode cX5_play 176 = .ok (.aload_n 0, 1) := by decide +kernel
theorem dX5_play_177 : decode cX5_play 177 = .ok (.iload_n 2, 1) := by decide +kernel
theorem dX5_play_178 : decode cX5_play 178 = .ok (.invokevirtual 126, 3) := by decide +kernel
theorem dX5_play_181 : decode cX5_play 181 = .ok (.goto (-151), 3) := by decide +kernel
theorem dX5_play_184 : decode cX5_play 184 = .ok (.iload_n 2, 1) := by decide +kernel
theorem dX5_play_185 : decode cX5_play 185 = .ok (.ireturn, 1) := by decide +kernel
theorem dX5_ended_0 : decode cX5_ended 0 = .ok (.aload_n 0, 1) := by decide +kernel
theorem dX5_ended_1 : decode cX5_ended 1 = .ok (.getfield 120, 3) := by decide +kernel
theorem dX5_ended_4 : decode cX5_ended 4 = .ok (.ireturn, 1) := by decide +kernel
theorem dX5_ring_0 : decode cX5_ring 0 = .ok (.aload_n 0, 1) := by decide +kernel
theorem dX5_ring_1 : decode cX5_ring 1 = .ok (.getfield 123, 3) := by decide +kernel
theorem dX5_ring_4 : decode cX5_ring 4 = .ok (.ireturn, 1) := by decide +kernel
theorem dX5_gift_0 : decode cX5_gift 0 = .ok (.aload_n 0, 1) := by decide +kernel
theorem dX5_gift_1 : decode cX5_gift 1 = .ok (.iload_n 1, 1) := by decide +kernel
theorem dX5_gift_2 : decode cX5_gift 2 = .ok (.invokevirtual 68, 3) := by decide +kernel
theorem dX5_gift_5 : decode cX5_gift 5 = .ok (.ifCond .eq 11, 3) := by decide +kernel
theorem dX5_gift_8 : decode cX5_gift 8 = .ok (.aload_n 0, 1) := by decide +kernel
theorem dX5_gift_9 : decode cX5_gift 9 = .ok (.iload_n 2, 1) := by decide +kernel
theorem dX5_gift_10 : decode cX5_gift 10 = .ok (.invokevirtual 138, 3) := by decide +kernel
theorem dX5_gift_13 : decode cX5_gift 13 = .ok (.ifCond .ne 6, 3) := by decide +kernel
theorem dX5_gift_16 : decode cX5_gift 16 = .ok (.bipush (-101), 2) := by decide +kernel
theorem dX5_gift_18 : decode cX5_gift 18 = .ok (.ireturn, 1) := by decide +kernel
theorem dX5_gift_19 : decode cX5_gift 19 = .ok (.iload_n 3, 1) := by decide +kernel
theorem dX5_gift_20 : decode cX5_gift 20 = .ok (.iconst 0, 1) := by decide +kernel
theorem dX5_gift_21 : decode cX5_gift 21 = .ok (.ldc 141, 2) := by decide +kernel
theorem dX5_gift_23 : decode cX5_gift 23 = .ok (.invokestatic 55, 3) := by decide +kernel
theorem dX5_gift_26 : decode cX5_gift 26 = .ok (.ifCond .ne 6, 3) := by decide +kernel
theorem dX5_gift_29 : decode cX5_gift 29 = .ok (.bipush (-102), 2) := by decide +kernel
theorem dX5_gift_31 : decode cX5_gift 31 = .ok (.ireturn, 1) := by decide +kernel
theorem dX5_gift_32 : decode cX5_gift 32 = .ok (.aload_n 0, 1) := by decide +kernel
theorem dX5_gift_33 : decode cX5_gift 33 = .ok (.getfield 23, 3) := by decide +kernel
theorem dX5_gift_36 : decode cX5_gift 36 = .ok (.bipush 6, 2) := by decide +kernel
theorem dX5_gift_38 : decode cX5_gift 38 = .ok (.iload_n 1, 1) := by decide +kernel
theorem dX5_gift_39 : decode cX5_gift 39 = .ok (.imul, 1) := by decide +kernel
theorem dX5_gift_40 : decode cX5_gift 40 = .ok (.iload_n 2, 1) := by decide +kernel
theorem dX5_gift_41 : decode cX5_gift 41 = .ok (.iadd, 1) := by decide +kernel
theorem dX5_gift_42 : decode cX5_gift 42 = .ok (.iaload, 1) := by decide +kernel
theorem dX5_gift_43 : decode cX5_gift 43 = .ok (.istore 4, 2) := by decide +kernel
theorem dX5_gift_45 : decode cX5_gift 45 = .ok (.aload_n 0, 1) := by decide +kernel
theorem dX5_gift_46 : decode cX5_gift 46 = .ok (.getfield 23, 3) := by decide +kernel
theorem dX5_gift_49 : decode cX5_gift 49 = .ok (.bipush 6, 2) := by decide +kernel
theorem dX5_gift_51 : decode cX5_gift 51 = .ok (.iload_n 1, 1) := by decide +kernel
theorem dX5_gift_52 : decode cX5_gift 52 = .ok (.imul, 1) := by decide +kernel
theorem dX5_gift_53 : decode cX5_gift 53 = .ok (.iload_n 2, 1) := by decide +kernel
theorem dX5_gift_54 : decode cX5_gift 54 = .ok (.iadd, 1) := by decide +kernel
theorem dX5_gift_55 : decode cX5_gift 55 = .ok (.iload_n 3, 1) := by decide +kernel
theorem dX5_gift_56 : decode cX5_gift 56 = .ok (.iastore, 1) := by decide +kernel
theorem dX5_gift_57 : decode cX5_gift 57 = .ok (.iload 4, 2) := by decide +kernel
theorem dX5_gift_59 : decode cX5_gift 59 = .ok (.ireturn, 1) := by decide +kernel
theorem dX5_bond_0 : decode cX5_bond 0 = .ok (.aload_n 0, 1) := by decide +kernel
theorem dX5_bond_1 : decode cX5_bond 1 = .ok (.iload_n 1, 1) := by decide +kernel
theorem dX5_bond_2 : decode cX5_bond 2 = .ok (.invokevirtual 68, 3) := by decide +kernel
theorem dX5_bond_5 : decode cX5_bond 5 = .ok (.ifCond .eq 11, 3) := by decide +kernel
theorem dX5_bond_8 : decode cX5_bond 8 = .ok (.aload_n 0, 1) := by decide +kernel
theorem dX5_bond_9 : decode cX5_bond 9 = .ok (.iload_n 2, 1) := by decide +kernel
theorem dX5_bond_10 : decode cX5_bond 10 = .ok (.invokevirtual 68, 3) := by decide +kernel
theorem dX5_bond_13 : decode cX5_bond 13 = .ok (.ifCond .ne 6, 3) := by decide +kernel
theorem dX5_bond_16 : decode cX5_bond 16 = .ok (.bipush (-101), 2) := by decide +kernel
theorem dX5_bond_18 : decode cX5_bond 18 = .ok (.ireturn, 1) := by decide +kernel
theorem dX5_bond_19 : decode cX5_bond 19 = .ok (.iload_n 1, 1) := by decide +kernel
theorem dX5_bond_20 : decode cX5_bond 20 = .ok (.iload_n 2, 1) := by decide +kernel
theorem dX5_bond_21 : decode cX5_bond 21 = .ok (.if_icmp .eq 14, 3) := by decide +kernel
theorem dX5_bond_24 : decode cX5_bond 24 = .ok (.iload_n 3, 1) := by decide +kernel
theorem dX5_bond_25 : decode cX5_bond 25 = .ok (.iconst 0, 1) := by decide +kernel
theorem dX5_bond_26 : decode cX5_bond 26 = .ok (.sipush 1000, 3) := by decide +kernel
theorem dX5_bond_29 : decode cX5_bond 29 = .ok (.invokestatic 55, 3) := by decide +kernel
theorem dX5_bond_32 : decode cX5_bond 32 = .ok (.ifCond .ne 6, 3) := by decide +kernel
theorem dX5_bond_35 : decode cX5_bond 35 = .ok (.bipush (-102), 2) := by decide +kernel
theorem dX5_bond_37 : decode cX5_bond 37 = .ok (.ireturn, 1) := by decide +kernel
theorem dX5_bond_38 : decode cX5_bond 38 = .ok (.aload_n 0, 1) := by decide +kernel
theorem dX5_bond_39 : decode cX5_bond 39 = .ok (.getfield 26, 3) := by decide +kernel
theorem dX5_bond_42 : decode cX5_bond 42 = .ok (.bipush 12, 2) := by decide +kernel
theorem dX5_bond_44 : decode cX5_bond 44 = .ok (.iload_n 1, 1) := by decide +kernel
theorem dX5_bond_45 : decode cX5_bond 45 = .ok (.imul, 1) := by decide +kernel
theorem dX5_bond_46 : decode cX5_bond 46 = .ok (.iload_n 2, 1) := by decide +kernel
theorem dX5_bond_47 : decode cX5_bond 47 = .ok (.iadd, 1) := by decide +kernel
theorem dX5_bond_48 : decode cX5_bond 48 = .ok (.iaload, 1) := by decide +kernel
theorem dX5_bond_49 : decode cX5_bond 49 = .ok (.istore 4, 2) := by decide +kernel
theorem dX5_bond_51 : decode cX5_bond 51 = .ok (.aload_n 0, 1) := by decide +kernel
theorem dX5_bond_52 : decode cX5_bond 52 = .ok (.getfield 26, 3) := by decide +kernel
theorem dX5_bond_55 : decode cX5_bond 55 = .ok (.bipush 12, 2) := by decide +kernel
theorem dX5_bond_57 : decode cX5_bond 57 = .ok (.iload_n 1, 1) := by decide +kernel
theorem dX5_bond_58 : decode cX5_bond 58 = .ok (.imul, 1) := by decide +kernel
theorem dX5_bond_59 : decode cX5_bond 59 = .ok (.iload_n 2, 1) := by decide +kernel
theorem dX5_bond_60 : decode cX5_bond 60 = .ok (.iadd, 1) := by decide +kernel
theorem dX5_bond_61 : decode cX5_bond 61 = .ok (.iload_n 3, 1) := by decide +kernel
theorem dX5_bond_62 : decode cX5_bond 62 = .ok (.iastore, 1) := by decide +kernel
theorem dX5_bond_63 : decode cX5_bond 63 = .ok (.aload_n 0, 1) := by decide +kernel
theorem dX5_bond_64 : decode cX5_bond 64 = .ok (.getfield 26, 3) := by decide +kernel
theorem dX5_bond_67 : decode cX5_bond 67 = .ok (.bipush 12, 2) := by decide +kernel
theorem dX5_bond_69 : decode cX5_bond 69 = .ok (.iload_n 2, 1) := by decide +kernel
theorem dX5_bond_70 : decode cX5_bond 70 = .ok (.imul, 1) := by decide +kernel
theorem dX5_bond_71 : decode cX5_bond 71 = .ok (.iload_n 1, 1) := by decide +kernel
theorem dX5_bond_72 : decode cX5_bond 72 = .ok (.iadd, 1) := by decide +kernel
theorem dX5_bond_73 : decode cX5_bond 73 = .ok (.iload_n 3, 1) := by decide +kernel
theorem dX5_bond_74 : decode cX5_bond 74 = .ok (.iastore, 1) := by decide +kernel
theorem dX5_bond_75 : decode cX5_bond 75 = .ok (.iload 4, 2) := by decide +kernel
theorem dX5_bond_77 : decode cX5_bond 77 = .ok (.ireturn, 1) := by decide +kernel
theorem dX5_root_0 : decode cX5_root 0 = .ok (.lconst 0, 1) := by decide +kernel
theorem dX5_root_1 : decode cX5_root 1 = .ok (.lstore_n 2, 1) := by decide +kernel
theorem dX5_root_2 : decode cX5_root 2 = .ok (.bipush 28, 2) := by decide +kernel
theorem dX5_root_4 : decode cX5_root 4 = .ok (.istore 4, 2) := by decide +kernel
theorem dX5_root_6 : decode cX5_root 6 = .ok (.iload 4, 2) := by decide +kernel
theorem dX5_root_8 : decode cX5_root 8 = .ok (.ifCond .lt 34, 3) := by decide +kernel
theorem dX5_root_11 : decode cX5_root 11 = .ok (.lload_n 2, 1) := by decide +kernel
theorem dX5_root_12 : decode cX5_root 12 = .ok (.lconst 1, 1) := by decide +kernel
theorem dX5_root_13 : decode cX5_root 13 = .ok (.iload 4, 2) := by decide +kernel
theorem dX5_root_15 : decode cX5_root 15 = .ok (.lshl, 1) := by decide +kernel
theorem dX5_root_16 : decode cX5_root 16 = .ok (.lor, 1) := by decide +kernel
theorem dX5_root_17 : decode cX5_root 17 = .ok (.lstore 5, 2) := by decide +kernel
theorem dX5_root_19 : decode cX5_root 19 = .ok (.lload 5, 2) := by decide +kernel
theorem dX5_root_21 : decode cX5_root 21 = .ok (.lload 5, 2) := by decide +kernel
theorem dX5_root_23 : decode cX5_root 23 = .ok (.lmul, 1) := by decide +kernel
theorem dX5_root_24 : decode cX5_root 24 = .ok (.lload_n 0, 1) := by decide +kernel
theorem dX5_root_25 : decode cX5_root 25 = .ok (.lcmp, 1) := by decide +kernel
theorem dX5_root_26 : decode cX5_root 26 = .ok (.ifCond .gt 8, 3) := by decide +kernel
theorem dX5_root_29 : decode cX5_root 29 = .ok (.lload 5, 2) := by decide +kernel
theorem dX5_root_31 : decode cX5_root 31 = .ok (.goto 4, 3) := by decide +kernel
theorem dX5_root_34 : decode cX5_root 34 = .ok (.lload_n 2, 1) := by decide +kernel
theorem dX5_root_35 : decode cX5_root 35 = .ok (.lstore_n 2, 1) := by decide +kernel
theorem dX5_root_36 : decode cX5_root 36 = .ok (.iinc 4 (-1), 3) := by decide +kernel
theorem dX5_root_39 : decode cX5_root 39 = .ok (.goto (-33), 3) := by decide +kernel
theorem dX5_root_42 : decode cX5_root 42 = .ok (.lload_n 2, 1) := by decide +kernel
theorem dX5_root_43 : decode cX5_root 43 = .ok (.lreturn, 1) := by decide +kernel
theorem dX5_matchedOf_0 : decode cX5_matchedOf 0 = .ok (.lconst 0, 1) := by decide +kernel
theorem dX5_matchedOf_1 : decode cX5_matchedOf 1 = .ok (.lstore 4, 2) := by decide +kernel
theorem dX5_matchedOf_3 : decode cX5_matchedOf 3 = .ok (.iconst 0, 1) := by decide +kernel
theorem dX5_matchedOf_4 : decode cX5_matchedOf 4 = .ok (.istore 6, 2) := by decide +kernel
theorem dX5_matchedOf_6 : decode cX5_matchedOf 6 = .ok (.iload 6, 2) := by decide +kernel
theorem dX5_matchedOf_8 : decode cX5_matchedOf 8 = .ok (.aload_n 0, 1) := by decide +kernel
theorem dX5_matchedOf_9 : decode cX5_matchedOf 9 = .ok (.getfield 51, 3) := by decide +kernel
theorem dX5_matchedOf_12 : decode cX5_matchedOf 12 = .ok (.if_icmp .ge 124, 3) := by decide +kernel
theorem dX5_matchedOf_15 : decode cX5_matchedOf 15 = .ok (.iconst 0, 1) := by decide +kernel
theorem dX5_matchedOf_16 : decode cX5_matchedOf 16 = .ok (.istore 7, 2) := by decide +kernel
theorem dX5_matchedOf_18 : decode cX5_matchedOf 18 = .ok (.iload 7, 2) := by decide +kernel
theorem dX5_matchedOf_20 : decode cX5_matchedOf 20 = .ok (.iload 6, 2) := by decide +kernel
theorem dX5_matchedOf_22 : decode cX5_matchedOf 22 = .ok (.if_icmp .ge 108, 3) := by decide +kernel
theorem dX5_matchedOf_25 : decode cX5_matchedOf 25 = .ok (.ldc2_w 142, 3) := by decide +kernel
theorem dX5_matchedOf_28 : decode cX5_matchedOf 28 = .ok (.aload_n 0, 1) := by decide +kernel
theorem dX5_matchedOf_29 : decode cX5_matchedOf 29 = .ok (.getfield 23, 3) := by decide +kernel
theorem dX5_matchedOf_32 : decode cX5_matchedOf 32 = .ok (.bipush 6, 2) := by decide +kernel
theorem dX5_matchedOf_34 : decode cX5_matchedOf 34 = .ok (.iload 6, 2) := by decide +kernel
theorem dX5_matchedOf_36 : decode cX5_matchedOf 36 = .ok (.imul, 1) := by decide +kernel
theorem dX5_matchedOf_37 : decode cX5_matchedOf 37 = .ok (.iload_n 1, 1) := by decide +kernel
theorem dX5_matchedOf_38 : decode cX5_matchedOf 38 = .ok (.iadd, 1) := by decide +kernel
theorem dX5_matchedOf_39 : decode cX5_matchedOf 39 = .ok (.iaload, 1) := by decide +kernel
theorem dX5_matchedOf_40 : decode cX5_matchedOf 40 = .ok (.i2l, 1) := by decide +kernel
theorem dX5_matchedOf_41 : decode cX5_matchedOf 41 = .ok (.lmul, 1) := by decide +kernel
theorem dX5_matchedOf_42 : decode cX5_matchedOf 42 = .ok (.aload_n 0, 1) := by decide +kernel
theorem dX5_matchedOf_43 : decode cX5_matchedOf 43 = .ok (.getfield 23, 3) := by decide +kernel
theorem dX5_matchedOf_46 : decode cX5_matchedOf 46 = .ok (.bipush 6, 2) := by decide +kernel
theorem dX5_matchedOf_48 : decode cX5_matchedOf 48 = .ok (.iload 7, 2) := by decide +kernel
theorem dX5_matchedOf_50 : decode cX5_matchedOf 50 = .ok (.imul, 1) := by decide +kernel
theorem dX5_matchedOf_51 : decode cX5_matchedOf 51 = .ok (.iload_n 1, 1) := by decide +kernel
theorem dX5_matchedOf_52 : decode cX5_matchedOf 52 = .ok (.iadd, 1) := by decide +kernel
theorem dX5_matchedOf_53 : decode cX5_matchedOf 53 = .ok (.iaload, 1) := by decide +kernel
theorem dX5_matchedOf_54 : decode cX5_matchedOf 54 = .ok (.i2l, 1) := by decide +kernel
theorem dX5_matchedOf_55 : decode cX5_matchedOf 55 = .ok (.lmul, 1) := by decide +kernel
theorem dX5_matchedOf_56 : decode cX5_matchedOf 56 = .ok (.lstore 8, 2) := by decide +kernel
theorem dX5_matchedOf_58 : decode cX5_matchedOf 58 = .ok (.iload_n 3, 1) := by decide +kernel
theorem dX5_matchedOf_59 : decode cX5_matchedOf 59 = .ok (.ifCond .eq 9, 3) := by decide +kernel
theorem dX5_matchedOf_62 : decode cX5_matchedOf 62 = .ok (.ldc2_w 144, 3) := by decide +kernel
theorem dX5_matchedOf_65 : decode cX5_matchedOf 65 = .ok (.goto 17, 3) := by decide +kernel
theorem dX5_matchedOf_68 : decode cX5_matchedOf 68 = .ok (.aload_n 0, 1) := by decide +kernel
theorem dX5_matchedOf_69 : decode cX5_matchedOf 69 = .ok (.getfield 26, 3) := by decide +kernel
theorem dX5_matchedOf_72 : decode cX5_matchedOf 72 = .ok (.bipush 12, 2) := by decide +kernel
theorem dX5_matchedOf_74 : decode cX5_matchedOf 74 = .ok (.iload 6, 2) := by decide +kernel
theorem dX5_matchedOf_76 : decode cX5_matchedOf 76 = .ok (.imul, 1) := by decide +kernel
theorem dX5_matchedOf_77 : decode cX5_matchedOf 77 = .ok (.iload 7, 2) := by decide +kernel
theorem dX5_matchedOf_79 : decode cX5_matchedOf 79 = .ok (.iadd, 1) := by decide +kernel
theorem dX5_matchedOf_80 : decode cX5_matchedOf 80 = .ok (.iaload, 1) := by decide +kernel
theorem dX5_matchedOf_81 : decode cX5_matchedOf 81 = .ok (.i2l, 1) := by decide +kernel
theorem dX5_matchedOf_82 : decode cX5_matchedOf 82 = .ok (.lstore 10, 2) := by decide +kernel
theorem dX5_matchedOf_84 : decode cX5_matchedOf 84 = .ok (.lload 8, 2) := by decide +kernel
theorem dX5_matchedOf_86 : decode cX5_matchedOf 86 = .ok (.invokestatic 146, 3) := by decide +kernel
theorem dX5_matchedOf_89 : decode cX5_matchedOf 89 = .ok (.lstore 12, 2) := by decide +kernel
theorem dX5_matchedOf_91 : decode cX5_matchedOf 91 = .ok (.lload 4, 2) := by decide +kernel
theorem dX5_matchedOf_93 : decode cX5_matchedOf 93 = .ok (.lload 10, 2) := by decide +kernel
theorem dX5_matchedOf_95 : decode cX5_matchedOf 95 = .ok (.lload 12, 2) := by decide +kernel
theorem dX5_matchedOf_97 : decode cX5_matchedOf 97 = .ok (.lmul, 1) := by decide +kernel
theorem dX5_matchedOf_98 : decode cX5_matchedOf 98 = .ok (.iload_n 2, 1) := by decide +kernel
theorem dX5_matchedOf_99 : decode cX5_matchedOf 99 = .ok (.iconst 1, 1) := by decide +kernel
theorem dX5_matchedOf_100 : decode cX5_matchedOf 100 = .ok (.if_icmp .ne 19, 3) := by decide +kernel
theorem dX5_matchedOf_103 : decode cX5_matchedOf 103 = .ok (.lload 12, 2) := by decide +kernel
theorem dX5_matchedOf_105 : decode cX5_matchedOf 105 = .ok (.lload 12, 2) := by decide +kernel
theorem dX5_matchedOf_107 : decode cX5_matchedOf 107 = .ok (.lmul, 1) := by decide +kernel
theorem dX5_matchedOf_108 : decode cX5_matchedOf 108 = .ok (.lload 8, 2) := by decide +kernel
theorem dX5_matchedOf_110 : decode cX5_matchedOf 110 = .ok (.lcmp, 1) := by decide +kernel
theorem dX5_matchedOf_111 : decode cX5_matchedOf 111 = .ok (.ifCond .eq 8, 3) := by decide +kernel
theorem dX5_matchedOf_114 : decode cX5_matchedOf 114 = .ok (.lload 10, 2) := by decide +kernel
theorem dX5_matchedOf_116 : decode cX5_matchedOf 116 = .ok (.goto 4, 3) := by decide +kernel
theorem dX5_matchedOf_119 : decode cX5_matchedOf 119 = .ok (.lconst 0, 1) := by decide +kernel
theorem dX5_matchedOf_120 : decode cX5_matchedOf 120 = .ok (.ladd, 1) := by decide +kernel
theorem dX5_matchedOf_121 : decode cX5_matchedOf 121 = .ok (.ladd, 1) := by decide +kernel
theorem dX5_matchedOf_122 : decode cX5_matchedOf 122 = .ok (.lstore 4, 2) := by decide +kernel
theorem dX5_matchedOf_124 : decode cX5_matchedOf 124 = .ok (.iinc 7 1, 3) := by decide +kernel
theorem dX5_matchedOf_127 : decode cX5_matchedOf 127 = .ok (.goto (-109), 3) := by decide +kernel
theorem dX5_matchedOf_130 : decode cX5_matchedOf 130 = .ok (.iinc 6 1, 3) := by decide +kernel
theorem dX5_matchedOf_133 : decode cX5_matchedOf 133 = .ok (.goto (-127), 3) := by decide +kernel
theorem dX5_matchedOf_136 : decode cX5_matchedOf 136 = .ok (.ldc2_w 150, 3) := by decide +kernel
theorem dX5_matchedOf_139 : decode cX5_matchedOf 139 = .ok (.lload 4, 2) := by decide +kernel
theorem dX5_matchedOf_141 : decode cX5_matchedOf 141 = .ok (.lmul, 1) := by decide +kernel
theorem dX5_matchedOf_142 : decode cX5_matchedOf 142 = .ok (.iload_n 2, 1) := by decide +kernel
theorem dX5_matchedOf_143 : decode cX5_matchedOf 143 = .ok (.iconst 1, 1) := by decide +kernel
theorem dX5_matchedOf_144 : decode cX5_matchedOf 144 = .ok (.if_icmp .ne 9, 3) := by decide +kernel
theorem dX5_matchedOf_147 : decode cX5_matchedOf 147 = .ok (.ldc2_w 152, 3) := by decide +kernel
theorem dX5_matchedOf_150 : decode cX5_matchedOf 150 = .ok (.goto 4, 3) := by decide +kernel
theorem dX5_matchedOf_153 : decode cX5_matchedOf 153 = .ok (.lconst 0, 1) := by decide +kernel
theorem dX5_matchedOf_154 : decode cX5_matchedOf 154 = .ok (.ladd, 1) := by decide +kernel
theorem dX5_matchedOf_155 : decode cX5_matchedOf 155 = .ok (.ldc2_w 154, 3) := by decide +kernel
theorem dX5_matchedOf_158 : decode cX5_matchedOf 158 = .ok (.ldiv, 1) := by decide +kernel
theorem dX5_matchedOf_159 : decode cX5_matchedOf 159 = .ok (.lreturn, 1) := by decide +kernel
theorem dX5_matched_0 : decode cX5_matched 0 = .ok (.aload_n 0, 1) := by decide +kernel
theorem dX5_matched_1 : decode cX5_matched 1 = .ok (.iload_n 1, 1) := by decide +kernel
theorem dX5_matched_2 : decode cX5_matched 2 = .ok (.invokevirtual 138, 3) := by decide +kernel
theorem dX5_matched_5 : decode cX5_matched 5 = .ok (.ifCond .ne 7, 3) := by decide +kernel
theorem dX5_matched_8 : decode cX5_matched 8 = .ok (.ldc2_w 156, 3) := by decide +kernel
theorem dX5_matched_11 : decode cX5_matched 11 = .ok (.lreturn, 1) := by decide +kernel
theorem dX5_matched_12 : decode cX5_matched 12 = .ok (.iload_n 2, 1) := by decide +kernel
theorem dX5_matched_13 : decode cX5_matched 13 = .ok (.iconst 0, 1) := by decide +kernel
theorem dX5_matched_14 : decode cX5_matched 14 = .ok (.iconst 1, 1) := by decide +kernel
theorem dX5_matched_15 : decode cX5_matched 15 = .ok (.invokestatic 55, 3) := by decide +kernel
theorem dX5_matched_18 : decode cX5_matched 18 = .ok (.ifCond .eq 13, 3) := by decide +kernel
theorem dX5_matched_21 : decode cX5_matched 21 = .ok (.aload_n 0, 1) := by decide +kernel
theorem dX5_matched_22 : decode cX5_matched 22 = .ok (.iload_n 1, 1) := by decide +kernel
theorem dX5_matched_23 : decode cX5_matched 23 = .ok (.iload_n 2, 1) := by decide +kernel
theorem dX5_matched_24 : decode cX5_matched 24 = .ok (.iconst 0, 1) := by decide +kernel
theorem dX5_matched_25 : decode cX5_matched 25 = .ok (.invokevirtual 158, 3) := by decide +kernel
theorem dX5_matched_28 : decode cX5_matched 28 = .ok (.goto 6, 3) := by decide +kernel
theorem dX5_matched_31 : decode cX5_matched 31 = .ok (.ldc2_w 162, 3) := by decide +kernel
theorem dX5_matched_34 : decode cX5_matched 34 = .ok (.lreturn, 1) := by decide +kernel
theorem dX5_share_0 : decode cX5_share 0 = .ok (.aload_n 0, 1) := by decide +kernel
theorem dX5_share_1 : decode cX5_share 1 = .ok (.iload_n 1, 1) := by decide +kernel
theorem dX5_share_2 : decode cX5_share 2 = .ok (.invokevirtual 138, 3) := by decide +kernel
theorem dX5_share_5 : decode cX5_share 5 = .ok (.ifCond .ne 7, 3) := by decide +kernel
theorem dX5_share_8 : decode cX5_share 8 = .ok (.ldc2_w 156, 3) := by decide +kernel
theorem dX5_share_11 : decode cX5_share 11 = .ok (.lreturn, 1) := by decide +kernel
theorem dX5_share_12 : decode cX5_share 12 = .ok (.lload_n 2, 1) := by decide +kernel
theorem dX5_share_13 : decode cX5_share 13 = .ok (.lconst 0, 1) := by decide +kernel
theorem dX5_share_14 : decode cX5_share 14 = .ok (.lcmp, 1) := by decide +kernel
theorem dX5_share_15 : decode cX5_share 15 = .ok (.ifCond .lt 11, 3) := by decide +kernel
theorem dX5_share_18 : decode cX5_share 18 = .ok (.lload_n 2, 1) := by decide +kernel
theorem dX5_share_19 : decode cX5_share 19 = .ok (.ldc2_w 164, 3) := by decide +kernel
theorem dX5_share_22 : decode cX5_share 22 = .ok (.lcmp, 1) := by decide +kernel
theorem dX5_share_23 : decode cX5_share 23 = .ok (.ifCond .le 7, 3) := by decide +kernel
theorem dX5_share_26 : decode cX5_share 26 = .ok (.ldc2_w 162, 3) := by decide +kernel
theorem dX5_share_29 : decode cX5_share 29 = .ok (.lreturn, 1) := by decide +kernel
theorem dX5_share_30 : decode cX5_share 30 = .ok (.lconst 0, 1) := by decide +kernel
theorem dX5_share_31 : decode cX5_share 31 = .ok (.lstore 4, 2) := by decide +kernel
theorem dX5_share_33 : decode cX5_share 33 = .ok (.iconst 0, 1) := by decide +kernel
theorem dX5_share_34 : decode cX5_share 34 = .ok (.istore 6, 2) := by decide +kernel
theorem dX5_share_36 : decode cX5_share 36 = .ok (.iload 6, 2) := by decide +kernel
theorem dX5_share_38 : decode cX5_share 38 = .ok (.aload_n 0, 1) := by decide +kernel
theorem dX5_share_39 : decode cX5_share 39 = .ok (.getfield 62, 3) := by decide +kernel
theorem dX5_share_42 : decode cX5_share 42 = .ok (.if_icmp .ge 36, 3) := by decide +kernel
theorem dX5_share_45 : decode cX5_share 45 = .ok (.aload_n 0, 1) := by decide +kernel
theorem dX5_share_46 : decode cX5_share 46 = .ok (.getfield 44, 3) := by decide +kernel
theorem dX5_share_49 : decode cX5_share 49 = .ok (.iload 6, 2) := by decide +kernel
theorem dX5_share_51 : decode cX5_share 51 = .ok (.aload_n 0, 1) := by decide +kernel
theorem dX5_share_52 : decode cX5_share 52 = .ok (.iload 6, 2) := by decide +kernel
theorem dX5_share_54 : decode cX5_share 54 = .ok (.iconst 0, 1) := by decide +kernel
theorem dX5_share_55 : decode cX5_share 55 = .ok (.iconst 0, 1) := by decide +kernel
theorem dX5_share_56 : decode cX5_share 56 = .ok (.invokevirtual 158, 3) := by decide +kernel
theorem dX5_share_59 : decode cX5_share 59 = .ok (.lastore, 1) := by decide +kernel
theorem dX5_share_60 : decode cX5_share 60 = .ok (.lload 4, 2) := by decide +kernel
theorem dX5_share_62 : decode cX5_share 62 = .ok (.aload_n 0, 1) := by decide +kernel
theorem dX5_share_63 : decode cX5_share 63 = .ok (.getfield 44, 3) := by decide +kernel
theorem dX5_share_66 : decode cX5_share 66 = .ok (.iload 6, 2) := by decide +kernel
theorem dX5_share_68 : decode cX5_share 68 = .ok (.laload, 1) := by decide +kernel
theorem dX5_share_69 : decode cX5_share 69 = .ok (.ladd, 1) := by decide +kernel
theorem dX5_share_70 : decode cX5_share 70 = .ok (.lstore 4, 2) := by decide +kernel
theorem dX5_share_72 : decode cX5_share 72 = .ok (.iinc 6 1, 3) := by decide +kernel
theorem dX5_share_75 : decode cX5_share 75 = .ok (.goto (-39), 3) := by decide +kernel
theorem dX5_share_78 : decode cX5_share 78 = .ok (.lload 4, 2) := by decide +kernel
theorem dX5_share_80 : decode cX5_share 80 = .ok (.lconst 0, 1) := by decide +kernel
theorem dX5_share_81 : decode cX5_share 81 = .ok (.lcmp, 1) := by decide +kernel
theorem dX5_share_82 : decode cX5_share 82 = .ok (.ifCond .ne 5, 3) := by decide +kernel
theorem dX5_share_85 : decode cX5_share 85 = .ok (.lconst 0, 1) := by decide +kernel
theorem dX5_share_86 : decode cX5_share 86 = .ok (.lreturn, 1) := by decide +kernel
theorem dX5_share_87 : decode cX5_share 87 = .ok (.lload_n 2, 1) := by decide +kernel
theorem dX5_share_88 : decode cX5_share 88 = .ok (.lstore 6, 2) := by decide +kernel
theorem dX5_share_90 : decode cX5_share 90 = .ok (.iconst 0, 1) := by decide +kernel
theorem dX5_share_91 : decode cX5_share 91 = .ok (.istore 8, 2) := by decide +kernel
theorem dX5_share_93 : decode cX5_share 93 = .ok (.iload 8, 2) := by decide +kernel
theorem dX5_share_95 : decode cX5_share 95 = .ok (.aload_n 0, 1) := by decide +kernel
theorem dX5_share_96 : decode cX5_share 96 = .ok (.getfield 62, 3) := by decide +kernel
theorem dX5_share_99 : decode cX5_share 99 = .ok (.if_icmp .ge 59, 3) := by decide +kernel
theorem dX5_share_102 : decode cX5_share 102 = .ok (.aload_n 0, 1) := by decide +kernel
theorem dX5_share_103 : decode cX5_share 103 = .ok (.getfield 48, 3) := by decide +kernel
theorem dX5_share_106 : decode cX5_share 106 = .ok (.iload 8, 2) := by decide +kernel
theorem dX5_share_108 : decode cX5_share 108 = .ok (.lload_n 2, 1) := by decide +kernel
theorem dX5_share_109 : decode cX5_share 109 = .ok (.aload_n 0, 1) := by decide +kernel
theorem dX5_share_110 : decode cX5_share 110 = .ok (.getfield 44, 3) := by decide +kernel
theorem dX5_share_113 : decode cX5_share 113 = .ok (.iload 8, 2) := by decide +kernel
theorem dX5_share_115 : decode cX5_share 115 = .ok (.laload, 1) := by decide +kernel
theorem dX5_share_116 : decode cX5_share 116 = .ok (.lmul, 1) := by decide +kernel
theorem dX5_share_117 : decode cX5_share 117 = .ok (.lload 4, 2) := by decide +kernel
theorem dX5_share_119 : decode cX5_share 119 = .ok (.lrem, 1) := by decide +kernel
theorem dX5_share_120 : decode cX5_share 120 = .ok (.lastore, 1) := by decide +kernel
theorem dX5_share_121 : decode cX5_share 121 = .ok (.aload_n 0, 1) := by decide +kernel
theorem dX5_share_122 : decode cX5_share 122 = .ok (.getfield 44, 3) := by decide +kernel
theorem dX5_share_125 : decode cX5_share 125 = .ok (.iload 8, 2) := by decide +kernel
theorem dX5_share_127 : decode cX5_share 127 = .ok (.lload_n 2, 1) := by decide +kernel
theorem dX5_share_128 : decode cX5_share 128 = .ok (.aload_n 0, 1) := by decide +kernel
theorem dX5_share_129 : decode cX5_share 129 = .ok (.getfield 44, 3) := by decide +kernel
theorem dX5_share_132 : decode cX5_share 132 = .ok (.iload 8, 2) := by decide +kernel
theorem dX5_share_134 : decode cX5_share 134 = .ok (.laload, 1) := by decide +kernel
theorem dX5_share_135 : decode cX5_share 135 = .ok (.lmul, 1) := by decide +kernel
theorem dX5_share_136 : decode cX5_share 136 = .ok (.lload 4, 2) := by decide +kernel
theorem dX5_share_138 : decode cX5_share 138 = .ok (.ldiv, 1) := by decide +kernel
theorem dX5_share_139 : decode cX5_share 139 = .ok (.lastore, 1) := by decide +kernel
theorem dX5_share_140 : decode cX5_share 140 = .ok (.lload 6, 2) := by decide +kernel
theorem dX5_share_142 : decode cX5_share 142 = .ok (.aload_n 0, 1) := by decide +kernel
theorem dX5_share_143 : decode cX5_share 143 = .ok (.getfield 44, 3) := by decide +kernel
theorem dX5_share_146 : decode cX5_share 146 = .ok (.iload 8, 2) := by decide +kernel
theorem dX5_share_148 : decode cX5_share 148 = .ok (.laload, 1) := by decide +kernel
theorem dX5_share_149 : decode cX5_share 149 = .ok (.lsub, 1) := by decide +kernel
theorem dX5_share_150 : decode cX5_share 150 = .ok (.lstore 6, 2) := by decide +kernel
theorem dX5_share_152 : decode cX5_share 152 = .ok (.iinc 8 1, 3) := by decide +kernel
theorem dX5_share_155 : decode cX5_share 155 = .ok (.goto (-62), 3) := by decide +kernel
theorem dX5_share_158 : decode cX5_share 158 = .ok (.lload 6, 2) := by decide +kernel
theorem dX5_share_160 : decode cX5_share 160 = .ok (.lconst 0, 1) := by decide +kernel
theorem dX5_share_161 : decode cX5_share 161 = .ok (.lcmp, 1) := by decide +kernel
theorem dX5_share_162 : decode cX5_share 162 = .ok (.ifCond .le 81, 3) := by decide +kernel
theorem dX5_share_165 : decode cX5_share 165 = .ok (.iconst 0, 1) := by decide +kernel
theorem dX5_share_166 : decode cX5_share 166 = .ok (.istore 8, 2) := by decide +kernel
theorem dX5_share_168 : decode cX5_share 168 = .ok (.iconst 1, 1) := by decide +kernel
theorem dX5_share_169 : decode cX5_share 169 = .ok (.istore 9, 2) := by decide +kernel
theorem dX5_share_171 : decode cX5_share 171 = .ok (.iload 9, 2) := by decide +kernel
theorem dX5_share_173 : decode cX5_share 173 = .ok (.aload_n 0, 1) := by decide +kernel
theorem dX5_share_174 : decode cX5_share 174 = .ok (.getfield 62, 3) := by decide +kernel
theorem dX5_share_177 : decode cX5_share 177 = .ok (.if_icmp .ge 36, 3) := by decide +kernel
theorem dX5_share_180 : decode cX5_share 180 = .ok (.aload_n 0, 1) := by decide +kernel
theorem dX5_share_181 : decode cX5_share 181 = .ok (.getfield 48, 3) := by decide +kernel
theorem dX5_share_184 : decode cX5_share 184 = .ok (.iload 9, 2) := by decide +kernel
theorem dX5_share_186 : decode cX5_share 186 = .ok (.laload, 1) := by decide +kernel
theorem dX5_share_187 : decode cX5_share 187 = .ok (.aload_n 0, 1) := by decide +kernel
theorem dX5_share_188 : decode cX5_share 188 = .ok (.getfield 48, 3) := by decide +kernel
theorem dX5_share_191 : decode cX5_share 191 = .ok (.iload 8, 2) := by decide +kernel
theorem dX5_share_193 : decode cX5_share 193 = .ok (.laload, 1) := by decide +kernel
theorem dX5_share_194 : decode cX5_share 194 = .ok (.lcmp, 1) := by decide +kernel
theorem dX5_share_195 : decode cX5_share 195 = .ok (.ifCond .le 8, 3) := by decide +kernel
theorem dX5_share_198 : decode cX5_share 198 = .ok (.iload 9, 2) := by decide +kernel
theorem dX5_share_200 : decode cX5_share 200 = .ok (.goto 5, 3) := by decide +kernel
theorem dX5_share_203 : decode cX5_share 203 = .ok (.iload 8, 2) := by decide +kernel
theorem dX5_share_205 : decode cX5_share 205 = .ok (.istore 8, 2) := by decide +kernel
theorem dX5_share_207 : decode cX5_share 207 = .ok (.iinc 9 1, 3) := by decide +kernel
theorem dX5_share_210 : decode cX5_share 210 = .ok (.goto (-39), 3) := by decide +kernel
theorem dX5_share_213 : decode cX5_share 213 = .ok (.aload_n 0, 1) := by decide +kernel
theorem dX5_share_214 : decode cX5_share 214 = .ok (.getfield 48, 3) := by decide +kernel
theorem dX5_share_217 : decode cX5_share 217 = .ok (.iload 8, 2) := by decide +kernel
theorem dX5_share_219 : decode cX5_share 219 = .ok (.ldc2_w 166, 3) := by decide +kernel
theorem dX5_share_222 : decode cX5_share 222 = .ok (.lastore, 1) := by decide +kernel
theorem dX5_share_223 : decode cX5_share 223 = .ok (.aload_n 0, 1) := by decide +kernel
theorem dX5_share_224 : decode cX5_share 224 = .ok (.getfield 44, 3) := by decide +kernel
theorem dX5_share_227 : decode cX5_share 227 = .ok (.iload 8, 2) := by decide +kernel
theorem dX5_share_229 : decode cX5_share 229 = .ok (.dup2, 1) := by decide +kernel
theorem dX5_share_230 : decode cX5_share 230 = .ok (.laload, 1) := by decide +kernel
theorem dX5_share_231 : decode cX5_share 231 = .ok (.lconst 1, 1) := by decide +kernel
theorem dX5_share_232 : decode cX5_share 232 = .ok (.ladd, 1) := by decide +kernel
theorem dX5_share_233 : decode cX5_share 233 = .ok (.lastore, 1) := by decide +kernel
theorem dX5_share_234 : decode cX5_share 234 = .ok (.lload 6, 2) := by decide +kernel
theorem dX5_share_236 : decode cX5_share 236 = .ok (.lconst 1, 1) := by decide +kernel
theorem dX5_share_237 : decode cX5_share 237 = .ok (.lsub, 1) := by decide +kernel
theorem dX5_share_238 : decode cX5_share 238 = .ok (.lstore 6, 2) := by decide +kernel
theorem dX5_share_240 : decode cX5_share 240 = .ok (.goto (-82), 3) := by decide +kernel
theorem dX5_share_243 : decode cX5_share 243 = .ok (.aload_n 0, 1) := by decide +kernel
theorem dX5_share_244 : decode cX5_share 244 = .ok (.getfield 44, 3) := by decide +kernel
theorem dX5_share_247 : decode cX5_share 247 = .ok (.iload_n 1, 1) := by decide +kernel
theorem dX5_share_248 : decode cX5_share 248 = .ok (.laload, 1) := by decide +kernel
theorem dX5_share_249 : decode cX5_share 249 = .ok (.lreturn, 1) := by decide +kernel
theorem dX5_damped_0 : decode cX5_damped 0 = .ok (.aload_n 0, 1) := by decide +kernel
theorem dX5_damped_1 : decode cX5_damped 1 = .ok (.iload_n 1, 1) := by decide +kernel
theorem dX5_damped_2 : decode cX5_damped 2 = .ok (.invokevirtual 138, 3) := by decide +kernel
theorem dX5_damped_5 : decode cX5_damped 5 = .ok (.ifCond .eq 21, 3) := by decide +kernel
theorem dX5_damped_8 : decode cX5_damped 8 = .ok (.aload_n 0, 1) := by decide +kernel
theorem dX5_damped_9 : decode cX5_damped 9 = .ok (.iload_n 1, 1) := by decide +kernel
theorem dX5_damped_10 : decode cX5_damped 10 = .ok (.iconst 0, 1) := by decide +kernel
theorem dX5_damped_11 : decode cX5_damped 11 = .ok (.iconst 1, 1) := by decide +kernel
theorem dX5_damped_12 : decode cX5_damped 12 = .ok (.invokevirtual 158, 3) := by decide +kernel
theorem dX5_damped_15 : decode cX5_damped 15 = .ok (.aload_n 0, 1) := by decide +kernel
theorem dX5_damped_16 : decode cX5_damped 16 = .ok (.iload_n 1, 1) := by decide +kernel
theorem dX5_damped_17 : decode cX5_damped 17 = .ok (.iconst 0, 1) := by decide +kernel
theorem dX5_damped_18 : decode cX5_damped 18 = .ok (.iconst 0, 1) := by decide +kernel
theorem dX5_damped_19 : decode cX5_damped 19 = .ok (.invokevirtual 158, 3) := by decide +kernel
theorem dX5_damped_22 : decode cX5_damped 22 = .ok (.lsub, 1) := by decide +kernel
theorem dX5_damped_23 : decode cX5_damped 23 = .ok (.goto 6, 3) := by decide +kernel
theorem dX5_damped_26 : decode cX5_damped 26 = .ok (.ldc2_w 156, 3) := by decide +kernel
theorem dX5_damped_29 : decode cX5_damped 29 = .ok (.lreturn, 1) := by decide +kernel
theorem dX5_likenessOf_0 : decode cX5_likenessOf 0 = .ok (.lconst 0, 1) := by decide +kernel
theorem dX5_likenessOf_1 : decode cX5_likenessOf 1 = .ok (.lstore_n 3, 1) := by decide +kernel
theorem dX5_likenessOf_2 : decode cX5_likenessOf 2 = .ok (.iconst 0, 1) := by decide +kernel
theorem dX5_likenessOf_3 : decode cX5_likenessOf 3 = .ok (.istore 5, 2) := by decide +kernel
theorem dX5_likenessOf_5 : decode cX5_likenessOf 5 = .ok (.iload 5, 2) := by decide +kernel
theorem dX5_likenessOf_7 : decode cX5_likenessOf 7 = .ok (.aload_n 0, 1) := by decide +kernel
theorem dX5_likenessOf_8 : decode cX5_likenessOf 8 = .ok (.getfield 59, 3) := by decide +kernel
theorem dX5_likenessOf_11 : decode cX5_likenessOf 11 = .ok (.if_icmp .ge 38, 3) := by decide +kernel
theorem dX5_likenessOf_14 : decode cX5_likenessOf 14 = .ok (.lload_n 3, 1) := by decide +kernel
theorem dX5_likenessOf_15 : decode cX5_likenessOf 15 = .ok (.aload_n 0, 1) := by decide +kernel
theorem dX5_likenessOf_16 : decode cX5_likenessOf 16 = .ok (.getfield 17, 3) := by decide +kernel
theorem dX5_likenessOf_19 : decode cX5_likenessOf 19 = .ok (.bipush 6, 2) := by decide +kernel
theorem dX5_likenessOf_21 : decode cX5_likenessOf 21 = .ok (.iload_n 1, 1) := by decide +kernel
theorem dX5_likenessOf_22 : decode cX5_likenessOf 22 = .ok (.imul, 1) := by decide +kernel
theorem dX5_likenessOf_23 : decode cX5_likenessOf 23 = .ok (.iload 5, 2) := by decide +kernel
theorem dX5_likenessOf_25 : decode cX5_likenessOf 25 = .ok (.iadd, 1) := by decide +kernel
theorem dX5_likenessOf_26 : decode cX5_likenessOf 26 = .ok (.iaload, 1) := by decide +kernel
theorem dX5_likenessOf_27 : decode cX5_likenessOf 27 = .ok (.aload_n 0, 1) := by decide +kernel
theorem dX5_likenessOf_28 : decode cX5_likenessOf 28 = .ok (.getfield 17, 3) := by decide +kernel
theorem dX5_likenessOf_31 : decode cX5_likenessOf 31 = .ok (.bipush 6, 2) := by decide +kernel
theorem dX5_likenessOf_33 : decode cX5_likenessOf 33 = .ok (.iload_n 2, 1) := by decide +kernel
theorem dX5_likenessOf_34 : decode cX5_likenessOf 34 = .ok (.imul, 1) := by decide +kernel
theorem dX5_likenessOf_35 : decode cX5_likenessOf 35 = .ok (.iload 5, 2) := by decide +kernel
theorem dX5_likenessOf_37 : decode cX5_likenessOf 37 = .ok (.iadd, 1) := by decide +kernel
theorem dX5_likenessOf_38 : decode cX5_likenessOf 38 = .ok (.iaload, 1) := by decide +kernel
theorem dX5_likenessOf_39 : decode cX5_likenessOf 39 = .ok (.imul, 1) := by decide +kernel
theorem dX5_likenessOf_40 : decode cX5_likenessOf 40 = .ok (.i2l, 1) := by decide +kernel
theorem dX5_likenessOf_41 : decode cX5_likenessOf 41 = .ok (.ladd, 1) := by decide +kernel
theorem dX5_likenessOf_42 : decode cX5_likenessOf 42 = .ok (.lstore_n 3, 1) := by decide +kernel
theorem dX5_likenessOf_43 : decode cX5_likenessOf 43 = .ok (.iinc 5 1, 3) := by decide +kernel
theorem dX5_likenessOf_46 : decode cX5_likenessOf 46 = .ok (.goto (-41), 3) := by decide +kernel
theorem dX5_likenessOf_49 : decode cX5_likenessOf 49 = .ok (.aload_n 0, 1) := by decide +kernel
theorem dX5_likenessOf_50 : decode cX5_likenessOf 50 = .ok (.iload_n 1, 1) := by decide +kernel
theorem dX5_likenessOf_51 : decode cX5_likenessOf 51 = .ok (.invokevirtual 75, 3) := by decide +kernel
theorem dX5_likenessOf_54 : decode cX5_likenessOf 54 = .ok (.i2l, 1) := by decide +kernel
theorem dX5_likenessOf_55 : decode cX5_likenessOf 55 = .ok (.aload_n 0, 1) := by decide +kernel
theorem dX5_likenessOf_56 : decode cX5_likenessOf 56 = .ok (.iload_n 2, 1) := by decide +kernel
theorem dX5_likenessOf_57 : decode cX5_likenessOf 57 = .ok (.invokevirtual 75, 3) := by decide +kernel
theorem dX5_likenessOf_60 : decode cX5_likenessOf 60 = .ok (.i2l, 1) := by decide +kernel
theorem dX5_likenessOf_61 : decode cX5_likenessOf 61 = .ok (.lmul, 1) := by decide +kernel
theorem dX5_likenessOf_62 : decode cX5_likenessOf 62 = .ok (.lstore 5, 2) := by decide +kernel
theorem dX5_likenessOf_64 : decode cX5_likenessOf 64 = .ok (.lload 5, 2) := by decide +kernel
theorem dX5_likenessOf_66 : decode cX5_likenessOf 66 = .ok (.lconst 0, 1) := by decide +kernel
theorem dX5_likenessOf_67 : decode cX5_likenessOf 67 = .ok (.lcmp, 1) := by decide +kernel
theorem dX5_likenessOf_68 : decode cX5_likenessOf 68 = .ok (.ifCond .ne 7, 3) := by decide +kernel
theorem dX5_likenessOf_71 : decode cX5_likenessOf 71 = .ok (.sipush (-2000), 3) := by decide +kernel
theorem dX5_likenessOf_74 : decode cX5_likenessOf 74 = .ok (.ireturn, 1) := by decide +kernel
theorem dX5_likenessOf_75 : decode cX5_likenessOf 75 = .ok (.lload_n 3, 1) := by decide +kernel
theorem dX5_likenessOf_76 : decode cX5_likenessOf 76 = .ok (.lload_n 3, 1) := by decide +kernel
theorem dX5_likenessOf_77 : decode cX5_likenessOf 77 = .ok (.lmul, 1) := by decide +kernel
theorem dX5_likenessOf_78 : decode cX5_likenessOf 78 = .ok (.ldc2_w 144, 3) := by decide +kernel
theorem dX5_likenessOf_81 : decode cX5_likenessOf 81 = .ok (.lmul, 1) := by decide +kernel
theorem dX5_likenessOf_82 : decode cX5_likenessOf 82 = .ok (.lload 5, 2) := by decide +kernel
theorem dX5_likenessOf_84 : decode cX5_likenessOf 84 = .ok (.ldiv, 1) := by decide +kernel
theorem dX5_likenessOf_85 : decode cX5_likenessOf 85 = .ok (.l2i, 1) := by decide +kernel
theorem dX5_likenessOf_86 : decode cX5_likenessOf 86 = .ok (.istore 7, 2) := by decide +kernel
theorem dX5_likenessOf_88 : decode cX5_likenessOf 88 = .ok (.lload_n 3, 1) := by decide +kernel
theorem dX5_likenessOf_89 : decode cX5_likenessOf 89 = .ok (.lconst 0, 1) := by decide +kernel
theorem dX5_likenessOf_90 : decode cX5_likenessOf 90 = .ok (.lcmp, 1) := by decide +kernel
theorem dX5_likenessOf_91 : decode cX5_likenessOf 91 = .ok (.ifCond .ge 9, 3) := by decide +kernel
theorem dX5_likenessOf_94 : decode cX5_likenessOf 94 = .ok (.iload 7, 2) := by decide +kernel
theorem dX5_likenessOf_96 : decode cX5_likenessOf 96 = .ok (.ineg, 1) := by decide +kernel
theorem dX5_likenessOf_97 : decode cX5_likenessOf 97 = .ok (.goto 5, 3) := by decide +kernel
theorem dX5_likenessOf_100 : decode cX5_likenessOf 100 = .ok (.iload 7, 2) := by decide +kernel
theorem dX5_likenessOf_102 : decode cX5_likenessOf 102 = .ok (.ireturn, 1) := by decide +kernel
theorem dX5_likeness_0 : decode cX5_likeness 0 = .ok (.aload_n 0, 1) := by decide +kernel
theorem dX5_likeness_1 : decode cX5_likeness 1 = .ok (.iload_n 1, 1) := by decide +kernel
theorem dX5_likeness_2 : decode cX5_likeness 2 = .ok (.invokevirtual 68, 3) := by decide +kernel
theorem dX5_likeness_5 : decode cX5_likeness 5 = .ok (.ifCond .eq 20, 3) := by decide +kernel
theorem dX5_likeness_8 : decode cX5_likeness 8 = .ok (.aload_n 0, 1) := by decide +kernel
theorem dX5_likeness_9 : decode cX5_likeness 9 = .ok (.iload_n 2, 1) := by decide +kernel
theorem dX5_likeness_10 : decode cX5_likeness 10 = .ok (.invokevirtual 68, 3) := by decide +kernel
theorem dX5_likeness_13 : decode cX5_likeness 13 = .ok (.ifCond .eq 12, 3) := by decide +kernel
theorem dX5_likeness_16 : decode cX5_likeness 16 = .ok (.aload_n 0, 1) := by decide +kernel
theorem dX5_likeness_17 : decode cX5_likeness 17 = .ok (.iload_n 1, 1) := by decide +kernel
theorem dX5_likeness_18 : decode cX5_likeness 18 = .ok (.iload_n 2, 1) := by decide +kernel
theorem dX5_likeness_19 : decode cX5_likeness 19 = .ok (.invokevirtual 168, 3) := by decide +kernel
theorem dX5_likeness_22 : decode cX5_likeness 22 = .ok (.goto 6, 3) := by decide +kernel
theorem dX5_likeness_25 : decode cX5_likeness 25 = .ok (.sipush (-2001), 3) := by decide +kernel
theorem dX5_likeness_28 : decode cX5_likeness 28 = .ok (.ireturn, 1) := by decide +kernel
theorem dX5_group_0 : decode cX5_group 0 = .ok (.aload_n 0, 1) := by decide +kernel
theorem dX5_group_1 : decode cX5_group 1 = .ok (.iload_n 1, 1) := by decide +kernel
theorem dX5_group_2 : decode cX5_group 2 = .ok (.invokevirtual 68, 3) := by decide +kernel
theorem dX5_group_5 : decode cX5_group 5 = .ok (.ifCond .ne 6, 3) := by decide +kernel
theorem dX5_group_8 : decode cX5_group 8 = .ok (.bipush (-101), 2) := by decide +kernel
theorem dX5_group_10 : decode cX5_group 10 = .ok (.ireturn, 1) := by decide +kernel
theorem dX5_group_11 : decode cX5_group 11 = .ok (.iload_n 2, 1) := by decide +kernel
theorem dX5_group_12 : decode cX5_group 12 = .ok (.iconst 1, 1) := by decide +kernel
theorem dX5_group_13 : decode cX5_group 13 = .ok (.sipush 1000, 3) := by decide +kernel
theorem dX5_group_16 : decode cX5_group 16 = .ok (.invokestatic 55, 3) := by decide +kernel
theorem dX5_group_19 : decode cX5_group 19 = .ok (.ifCond .ne 6, 3) := by decide +kernel
theorem dX5_group_22 : decode cX5_group 22 = .ok (.bipush (-102), 2) := by decide +kernel
theorem dX5_group_24 : decode cX5_group 24 = .ok (.ireturn, 1) := by decide +kernel
theorem dX5_group_25 : decode cX5_group 25 = .ok (.iconst 1, 1) := by decide +kernel
theorem dX5_group_26 : decode cX5_group 26 = .ok (.iload_n 1, 1) := by decide +kernel
theorem dX5_group_27 : decode cX5_group 27 = .ok (.ishl, 1) := by decide +kernel
theorem dX5_group_28 : decode cX5_group 28 = .ok (.istore_n 3, 1) := by decide +kernel
theorem dX5_group_29 : decode cX5_group 29 = .ok (.iconst 0, 1) := by decide +kernel
theorem dX5_group_30 : decode cX5_group 30 = .ok (.istore 4, 2) := by decide +kernel
theorem dX5_group_32 : decode cX5_group 32 = .ok (.iload_n 3, 1) := by decide +kernel
theorem dX5_group_33 : decode cX5_group 33 = .ok (.iload 4, 2) := by decide +kernel
theorem dX5_group_35 : decode cX5_group 35 = .ok (.if_icmp .eq 78, 3) := by decide +kernel
theorem dX5_group_38 : decode cX5_group 38 = .ok (.iload_n 3, 1) := by decide +kernel
theorem dX5_group_39 : decode cX5_group 39 = .ok (.istore 4, 2) := by decide +kernel
theorem dX5_group_41 : decode cX5_group 41 = .ok (.iconst 0, 1) := by decide +kernel
theorem dX5_group_42 : decode cX5_group 42 = .ok (.istore 5, 2) := by decide +kernel
theorem dX5_group_44 : decode cX5_group 44 = .ok (.iload 5, 2) := by decide +kernel
theorem dX5_group_46 : decode cX5_group 46 = .ok (.aload_n 0, 1) := by decide +kernel
theorem dX5_group_47 : decode cX5_group 47 = .ok (.getfield 51, 3) := by decide +kernel
theorem dX5_group_50 : decode cX5_group 50 = .ok (.if_icmp .ge 60, 3) := by decide +kernel
theorem dX5_group_53 : decode cX5_group 53 = .ok (.iconst 0, 1) := by decide +kernel
theorem dX5_group_54 : decode cX5_group 54 = .ok (.istore 6, 2) := by decide +kernel
theorem dX5_group_56 : decode cX5_group 56 = .ok (.iload 6, 2) := by decide +kernel
theorem dX5_group_58 : decode cX5_group 58 = .ok (.aload_n 0, 1) := by decide +kernel
theorem dX5_group_59 : decode cX5_group 59 = .ok (.getfield 51, 3) := by decide +kernel
theorem dX5_group_62 : decode cX5_group 62 = .ok (.if_icmp .ge 42, 3) := by decide +kernel
theorem dX5_group_65 : decode cX5_group 65 = .ok (.iload_n 3, 1) := by decide +kernel
theorem dX5_group_66 : decode cX5_group 66 = .ok (.iload_n 3, 1) := by decide +kernel
theorem dX5_group_67 : decode cX5_group 67 = .ok (.iload 5, 2) := by decide +kernel
theorem dX5_group_69 : decode cX5_group 69 = .ok (.ishr, 1) := by decide +kernel
theorem dX5_group_70 : decode cX5_group 70 = .ok (.iconst 1, 1) := by decide +kernel
theorem dX5_group_71 : decode cX5_group 71 = .ok (.iand, 1) := by decide +kernel
theorem dX5_group_72 : decode cX5_group 72 = .ok (.iconst 1, 1) := by decide +kernel
theorem dX5_group_73 : decode cX5_group 73 = .ok (.if_icmp .ne 22, 3) := by decide +kernel
theorem dX5_group_76 : decode cX5_group 76 = .ok (.aload_n 0, 1) := by decide +kernel
theorem dX5_group_77 : decode cX5_group 77 = .ok (.iload 5, 2) := by decide +kernel
theorem dX5_group_79 : decode cX5_group 79 = .ok (.iload 6, 2) := by decide +kernel
theorem dX5_group_81 : decode cX5_group 81 = .ok (.invokevirtual 168, 3) := by decide +kernel
theorem dX5_group_84 : decode cX5_group 84 = .ok (.iload_n 2, 1) := by decide +kernel
theorem dX5_group_85 : decode cX5_group 85 = .ok (.if_icmp .lt 10, 3) := by decide +kernel
theorem dX5_group_88 : decode cX5_group 88 = .ok (.iconst 1, 1) := by decide +kernel
theorem dX5_group_89 : decode cX5_group 89 = .ok (.iload 6, 2) := by decide +kernel
theorem dX5_group_91 : decode cX5_group 91 = .ok (.ishl, 1) := by decide +kernel
theorem dX5_group_92 : decode cX5_group 92 = .ok (.goto 4, 3) := by decide +kernel
theorem dX5_group_95 : decode cX5_group 95 = .ok (.iconst 0, 1) := by decide +kernel
theorem dX5_group_96 : decode cX5_group 96 = .ok (.ior, 1) := by decide +kernel
theorem dX5_group_97 : decode cX5_group 97 = .ok (.istore_n 3, 1) := by decide +kernel
theorem dX5_group_98 : decode cX5_group 98 = .ok (.iinc 6 1, 3) := by decide +kernel
theorem dX5_group_101 : decode cX5_group 101 = .ok (.goto (-45), 3) := by decide +kernel
theorem dX5_group_104 : decode cX5_group 104 = .ok (.iinc 5 1, 3) := by decide +kernel
theorem dX5_group_107 : decode cX5_group 107 = .ok (.goto (-63), 3) := by decide +kernel
theorem dX5_group_110 : decode cX5_group 110 = .ok (.goto (-78), 3) := by decide +kernel
theorem dX5_group_113 : decode cX5_group 113 = .ok (.iload_n 3, 1) := by decide +kernel
theorem dX5_group_114 : decode cX5_group 114 = .ok (.ireturn, 1) := by decide +kernel
theorem dX5_count_0 : decode cX5_count 0 = .ok (.iconst 0, 1) := by decide +kernel
theorem dX5_count_1 : decode cX5_count 1 = .ok (.istore_n 2, 1) := by decide +kernel
theorem dX5_count_2 : decode cX5_count 2 = .ok (.iload_n 1, 1) := by decide +kernel
theorem dX5_count_3 : decode cX5_count 3 = .ok (.tableswitch 97 0 5 #[37, 42, 47, 52, 87, 92], 37) := by decide +kernel
theorem dX5_count_40 : decode cX5_count 40 = .ok (.aload_n 0, 1) := by decide +kernel
theorem dX5_count_41 : decode cX5_count 41 = .ok (.getfield 51, 3) := by decide +kernel
theorem dX5_count_44 : decode cX5_count 44 = .ok (.ireturn, 1) := by decide +kernel
theorem dX5_count_45 : decode cX5_count 45 = .ok (.aload_n 0, 1) := by decide +kernel
theorem dX5_count_46 : decode cX5_count 46 = .ok (.getfield 59, 3) := by decide +kernel
theorem dX5_count_49 : decode cX5_count 49 = .ok (.ireturn, 1) := by decide +kernel
theorem dX5_count_50 : decode cX5_count 50 = .ok (.aload_n 0, 1) := by decide +kernel
theorem dX5_count_51 : decode cX5_count 51 = .ok (.getfield 62, 3) := by decide +kernel
theorem dX5_count_54 : decode cX5_count 54 = .ok (.ireturn, 1) := by decide +kernel
theorem dX5_count_55 : decode cX5_count 55 = .ok (.iconst 0, 1) := by decide +kernel
theorem dX5_count_56 : decode cX5_count 56 = .ok (.istore_n 3, 1) := by decide +kernel
theorem dX5_count_57 : decode cX5_count 57 = .ok (.iload_n 3, 1) := by decide +kernel
theorem dX5_count_58 : decode cX5_count 58 = .ok (.aload_n 0, 1) := by decide +kernel
theorem dX5_count_59 : decode cX5_count 59 = .ok (.getfield 51, 3) := by decide +kernel
theorem dX5_count_62 : decode cX5_count 62 = .ok (.if_icmp .ge 26, 3) := by decide +kernel
theorem dX5_count_65 : decode cX5_count 65 = .ok (.iload_n 2, 1) := by decide +kernel
theorem dX5_count_66 : decode cX5_count 66 = .ok (.aload_n 0, 1) := by decide +kernel
theorem dX5_count_67 : decode cX5_count 67 = .ok (.getfield 13, 3) := by decide +kernel
theorem dX5_count_70 : decode cX5_count 70 = .ok (.iload_n 3, 1) := by decide +kernel
theorem dX5_count_71 : decode cX5_count 71 = .ok (.baload, 1) := by decide +kernel
theorem dX5_count_72 : decode cX5_count 72 = .ok (.ifCond .eq 7, 3) := by decide +kernel
theorem dX5_count_75 : decode cX5_count 75 = .ok (.iconst 1, 1) := by decide +kernel
theorem dX5_count_76 : decode cX5_count 76 = .ok (.goto 4, 3) := by decide +kernel
theorem dX5_count_79 : decode cX5_count 79 = .ok (.iconst 0, 1) := by decide +kernel
theorem dX5_count_80 : decode cX5_count 80 = .ok (.iadd, 1) := by decide +kernel
theorem dX5_count_81 : decode cX5_count 81 = .ok (.istore_n 2, 1) := by decide +kernel
theorem dX5_count_82 : decode cX5_count 82 = .ok (.iinc 3 1, 3) := by decide +kernel
theorem dX5_count_85 : decode cX5_count 85 = .ok (.goto (-28), 3) := by decide +kernel
theorem dX5_count_88 : decode cX5_count 88 = .ok (.iload_n 2, 1) := by decide +kernel
theorem dX5_count_89 : decode cX5_count 89 = .ok (.ireturn, 1) := by decide +kernel
theorem dX5_count_90 : decode cX5_count 90 = .ok (.aload_n 0, 1) := by decide +kernel
theorem dX5_count_91 : decode cX5_count 91 = .ok (.getfield 129, 3) := by decide +kernel
theorem dX5_count_94 : decode cX5_count 94 = .ok (.ireturn, 1) := by decide +kernel
theorem dX5_count_95 : decode cX5_count 95 = .ok (.aload_n 0, 1) := by decide +kernel
theorem dX5_count_96 : decode cX5_count 96 = .ok (.getfield 132, 3) := by decide +kernel
theorem dX5_count_99 : decode cX5_count 99 = .ok (.ireturn, 1) := by decide +kernel
theorem dX5_count_100 : decode cX5_count 100 = .ok (.bipush (-102), 2) := by decide +kernel
theorem dX5_count_102 : decode cX5_count 102 = .ok (.ireturn, 1) := by decide +kernel
theorem dX5_mix_0 : decode cX5_mix 0 = .ok (.aload_n 0, 1) := by decide +kernel
theorem dX5_mix_1 : decode cX5_mix 1 = .ok (.ldc2_w 171, 3) := by decide +kernel
theorem dX5_mix_4 : decode cX5_mix 4 = .ok (.aload_n 0, 1) := by decide +kernel
theorem dX5_mix_5 : decode cX5_mix 5 = .ok (.getfield 173, 3) := by decide +kernel
theorem dX5_mix_8 : decode cX5_mix 8 = .ok (.lmul, 1) := by decide +kernel
theorem dX5_mix_9 : decode cX5_mix 9 = .ok (.lload_n 1, 1) := by decide +kernel
theorem dX5_mix_10 : decode cX5_mix 10 = .ok (.ladd, 1) := by decide +kernel
theorem dX5_mix_11 : decode cX5_mix 11 = .ok (.putfield 173, 3) := by decide +kernel
theorem dX5_mix_14 : decode cX5_mix 14 = .ok (.return_, 1) := by decide +kernel
theorem dX5_digest_0 : decode cX5_digest 0 = .ok (.aload_n 0, 1) := by decide +kernel
theorem dX5_digest_1 : decode cX5_digest 1 = .ok (.ldc2_w 177, 3) := by decide +kernel
theorem dX5_digest_4 : decode cX5_digest 4 = .ok (.putfield 173, 3) := by decide +kernel
theorem dX5_digest_7 : decode cX5_digest 7 = .ok (.iconst 0, 1) := by decide +kernel
theorem dX5_digest_8 : decode cX5_digest 8 = .ok (.istore_n 1, 1) := by decide +kernel
theorem dX5_digest_9 : decode cX5_digest 9 = .ok (.iload_n 1, 1) := by decide +kernel
theorem dX5_digest_10 : decode cX5_digest 10 = .ok (.aload_n 0, 1) := by decide +kernel
theorem dX5_digest_11 : decode cX5_digest 11 = .ok (.getfield 51, 3) := by decide +kernel
theorem dX5_digest_14 : decode cX5_digest 14 = .ok (.if_icmp .ge 163, 3) := by decide +kernel
theorem dX5_digest_17 : decode cX5_digest 17 = .ok (.aload_n 0, 1) := by decide +kernel
theorem dX5_digest_18 : decode cX5_digest 18 = .ok (.aload_n 0, 1) := by decide +kernel
theorem dX5_digest_19 : decode cX5_digest 19 = .ok (.getfield 7, 3) := by decide +kernel
theorem dX5_digest_22 : decode cX5_digest 22 = .ok (.iload_n 1, 1) := by decide +kernel
theorem dX5_digest_23 : decode cX5_digest 23 = .ok (.iaload, 1) := by decide +kernel
theorem dX5_digest_24 : decode cX5_digest 24 = .ok (.i2l, 1) := by decide +kernel
theorem dX5_digest_25 : decode cX5_digest 25 = .ok (.invokevirtual 179, 3) := by decide +kernel
theorem dX5_digest_28 : decode cX5_digest 28 = .ok (.aload_n 0, 1) := by decide +kernel
theorem dX5_digest_29 : decode cX5_digest 29 = .ok (.aload_n 0, 1) := by decide +kernel
theorem dX5_digest_30 : decode cX5_digest 30 = .ok (.getfield 13, 3) := by decide +kernel
theorem dX5_digest_33 : decode cX5_digest 33 = .ok (.iload_n 1, 1) := by decide +kernel
theorem dX5_digest_34 : decode cX5_digest 34 = .ok (.baload, 1) := by decide +kernel
theorem dX5_digest_35 : decode cX5_digest 35 = .ok (.ifCond .eq 7, 3) := by decide +kernel
theorem dX5_digest_38 : decode cX5_digest 38 = .ok (.lconst 1, 1) := by decide +kernel
theorem dX5_digest_39 : decode cX5_digest 39 = .ok (.goto 4, 3) := by decide +kernel
theorem dX5_digest_42 : decode cX5_digest 42 = .ok (.lconst 0, 1) := by decide +kernel
theorem dX5_digest_43 : decode cX5_digest 43 = .ok (.invokevirtual 179, 3) := by decide +kernel
theorem dX5_digest_46 : decode cX5_digest 46 = .ok (.iconst 0, 1) := by decide +kernel
theorem dX5_digest_47 : decode cX5_digest 47 = .ok (.istore_n 2, 1) := by decide +kernel
theorem dX5_digest_48 : decode cX5_digest 48 = .ok (.iload_n 2, 1) := by decide +kernel
theorem dX5_digest_49 : decode cX5_digest 49 = .ok (.aload_n 0, 1) := by decide +kernel
theorem dX5_digest_50 : decode cX5_digest 50 = .ok (.getfield 59, 3) := by decide +kernel
theorem dX5_digest_53 : decode cX5_digest 53 = .ok (.if_icmp .ge 25, 3) := by decide +kernel
theorem dX5_digest_56 : decode cX5_digest 56 = .ok (.aload_n 0, 1) := by decide +kernel
theorem dX5_digest_57 : decode cX5_digest 57 = .ok (.aload_n 0, 1) := by decide +kernel
theorem dX5_digest_58 : decode cX5_digest 58 = .ok (.getfield 17, 3) := by decide +kernel
theorem dX5_digest_61 : decode cX5_digest 61 = .ok (.bipush 6, 2) := by decide +kernel
theorem dX5_digest_63 : decode cX5_digest 63 = .ok (.iload_n 1, 1) := by decide +kernel
theorem dX5_digest_64 : decode cX5_digest 64 = .ok (.imul, 1) := by decide +kernel
theorem dX5_digest_65 : decode cX5_digest 65 = .ok (.iload_n 2, 1) := by decide +kernel
theorem dX5_digest_66 : decode cX5_digest 66 = .ok (.iadd, 1) := by decide +kernel
theorem dX5_digest_67 : decode cX5_digest 67 = .ok (.iaload, 1) := by decide +kernel
theorem dX5_digest_68 : decode cX5_digest 68 = .ok (.i2l, 1) := by decide +kernel
theorem dX5_digest_69 : decode cX5_digest 69 = .ok (.invokevirtual 179, 3) := by decide +kernel
theorem dX5_digest_72 : decode cX5_digest 72 = .ok (.iinc 2 1, 3) := by decide +kernel
theorem dX5_digest_75 : decode cX5_digest 75 = .ok (.goto (-27), 3) := by decide +kernel
theorem dX5_digest_78 : decode cX5_digest 78 = .ok (.iconst 0, 1) := by decide +kernel
theorem dX5_digest_79 : decode cX5_digest 79 = .ok (.istore_n 2, 1) := by decide +kernel
theorem dX5_digest_80 : decode cX5_digest 80 = .ok (.iload_n 2, 1) := by decide +kernel
theorem dX5_digest_81 : decode cX5_digest 81 = .ok (.aload_n 0, 1) := by decide +kernel
theorem dX5_digest_82 : decode cX5_digest 82 = .ok (.getfield 59, 3) := by decide +kernel
theorem dX5_digest_85 : decode cX5_digest 85 = .ok (.if_icmp .ge 25, 3) := by decide +kernel
theorem dX5_digest_88 : decode cX5_digest 88 = .ok (.aload_n 0, 1) := by decide +kernel
theorem dX5_digest_89 : decode cX5_digest 89 = .ok (.aload_n 0, 1) := by decide +kernel
theorem dX5_digest_90 : decode cX5_digest 90 = .ok (.getfield 20, 3) := by decide +kernel
theorem dX5_digest_93 : decode cX5_digest 93 = .ok (.bipush 6, 2) := by decide +kernel
theorem dX5_digest_95 : decode cX5_digest 95 = .ok (.iload_n 1, 1) := by decide +kernel
theorem dX5_digest_96 : decode cX5_digest 96 = .ok (.imul, 1) := by decide +kernel
theorem dX5_digest_97 : decode cX5_digest 97 = .ok (.iload_n 2, 1) := by decide +kernel
theorem dX5_digest_98 : decode cX5_digest 98 = .ok (.iadd, 1) := by decide +kernel
theorem dX5_digest_99 : decode cX5_digest 99 = .ok (.iaload, 1) := by decide +kernel
theorem dX5_digest_100 : decode cX5_digest 100 = .ok (.i2l, 1) := by decide +kernel
theorem dX5_digest_101 : decode cX5_digest 101 = .ok (.invokevirtual 179, 3) := by decide +kernel
theorem dX5_digest_104 : decode cX5_digest 104 = .ok (.iinc 2 1, 3) := by decide +kernel
theorem dX5_digest_107 : decode cX5_digest 107 = .ok (.goto (-27), 3) := by decide +kernel
theorem dX5_digest_110 : decode cX5_digest 110 = .ok (.iconst 0, 1) := by decide +kernel
theorem dX5_digest_111 : decode cX5_digest 111 = .ok (.istore_n 2, 1) := by decide +kernel
theorem dX5_digest_112 : decode cX5_digest 112 = .ok (.iload_n 2, 1) := by decide +kernel
theorem dX5_digest_113 : decode cX5_digest 113 = .ok (.aload_n 0, 1) := by decide +kernel
theorem dX5_digest_114 : decode cX5_digest 114 = .ok (.getfield 62, 3) := by decide +kernel
theorem dX5_digest_117 : decode cX5_digest 117 = .ok (.if_icmp .ge 25, 3) := by decide +kernel
theorem dX5_digest_120 : decode cX5_digest 120 = .ok (.aload_n 0, 1) := by decide +kernel
theorem dX5_digest_121 : decode cX5_digest 121 = .ok (.aload_n 0, 1) := by decide +kernel
theorem dX5_digest_122 : decode cX5_digest 122 = .ok (.getfield 23, 3) := by decide +kernel
theorem dX5_digest_125 : decode cX5_digest 125 = .ok (.bipush 6, 2) := by decide +kernel
theorem dX5_digest_127 : decode cX5_digest 127 = .ok (.iload_n 1, 1) := by decide +kernel
theorem dX5_digest_128 : decode cX5_digest 128 = .ok (.imul, 1) := by decide +kernel
theorem dX5_digest_129 : decode cX5_digest 129 = .ok (.iload_n 2, 1) := by decide +kernel
theorem dX5_digest_130 : decode cX5_digest 130 = .ok (.iadd, 1) := by decide +kernel
theorem dX5_digest_131 : decode cX5_digest 131 = .ok (.iaload, 1) := by decide +kernel
theorem dX5_digest_132 : decode cX5_digest 132 = .ok (.i2l, 1) := by decide +kernel
theorem dX5_digest_133 : decode cX5_digest 133 = .ok (.invokevirtual 179, 3) := by decide +kernel
theorem dX5_digest_136 : decode cX5_digest 136 = .ok (.iinc 2 1, 3) := by decide +kernel
theorem dX5_digest_139 : decode cX5_digest 139 = .ok (.goto (-27), 3) := by decide +kernel
theorem dX5_digest_142 : decode cX5_digest 142 = .ok (.iconst 0, 1) := by decide +kernel
theorem dX5_digest_143 : decode cX5_digest 143 = .ok (.istore_n 2, 1) := by decide +kernel
theorem dX5_digest_144 : decode cX5_digest 144 = .ok (.iload_n 2, 1) := by decide +kernel
theorem dX5_digest_145 : decode cX5_digest 145 = .ok (.iload_n 1, 1) := by decide +kernel
theorem dX5_digest_146 : decode cX5_digest 146 = .ok (.if_icmp .ge 25, 3) := by decide +kernel
theorem dX5_digest_149 : decode cX5_digest 149 = .ok (.aload_n 0, 1) := by decide +kernel
theorem dX5_digest_150 : decode cX5_digest 150 = .ok (.aload_n 0, 1) := by decide +kernel
theorem dX5_digest_151 : decode cX5_digest 151 = .ok (.getfield 26, 3) := by decide +kernel
theorem dX5_digest_154 : decode cX5_digest 154 = .ok (.bipush 12, 2) := by decide +kernel
theorem dX5_digest_156 : decode cX5_digest 156 = .ok (.iload_n 1, 1) := by decide +kernel
theorem dX5_digest_157 : decode cX5_digest 157 = .ok (.imul, 1) := by decide +kernel
theorem dX5_digest_158 : decode cX5_digest 158 = .ok (.iload_n 2, 1) := by decide +kernel
theorem dX5_digest_159 : decode cX5_digest 159 = .ok (.iadd, 1) := by decide +kernel
theorem dX5_digest_160 : decode cX5_digest 160 = .ok (.iaload, 1) := by decide +kernel
theorem dX5_digest_161 : decode cX5_digest 161 = .ok (.i2l, 1) := by decide +kernel
theorem dX5_digest_162 : decode cX5_digest 162 = .ok (.invokevirtual 179, 3) := by decide +kernel
theorem dX5_digest_165 : decode cX5_digest 165 = .ok (.iinc 2 1, 3) := by decide +kernel
theorem dX5_digest_168 : decode cX5_digest 168 = .ok (.goto (-24), 3) := by decide +kernel
theorem dX5_digest_171 : decode cX5_digest 171 = .ok (.iinc 1 1, 3) := by decide +kernel
theorem dX5_digest_174 : decode cX5_digest 174 = .ok (.goto (-165), 3) := by decide +kernel
theorem dX5_digest_177 : decode cX5_digest 177 = .ok (.aload_n 0, 1) := by decide +kernel
theorem dX5_digest_178 : decode cX5_digest 178 = .ok (.aload_n 0, 1) := by decide +kernel
theorem dX5_digest_179 : decode cX5_digest 179 = .ok (.getfield 65, 3) := by decide +kernel
theorem dX5_digest_182 : decode cX5_digest 182 = .ok (.i2l, 1) := by decide +kernel
theorem dX5_digest_183 : decode cX5_digest 183 = .ok (.invokevirtual 179, 3) := by decide +kernel
theorem dX5_digest_186 : decode cX5_digest 186 = .ok (.aload_n 0, 1) := by decide +kernel
theorem dX5_digest_187 : decode cX5_digest 187 = .ok (.aload_n 0, 1) := by decide +kernel
theorem dX5_digest_188 : decode cX5_digest 188 = .ok (.getfield 129, 3) := by decide +kernel
theorem dX5_digest_191 : decode cX5_digest 191 = .ok (.i2l, 1) := by decide +kernel
theorem dX5_digest_192 : decode cX5_digest 192 = .ok (.invokevirtual 179, 3) := by decide +kernel
theorem dX5_digest_195 : decode cX5_digest 195 = .ok (.aload_n 0, 1) := by decide +kernel
theorem dX5_digest_196 : decode cX5_digest 196 = .ok (.aload_n 0, 1) := by decide +kernel
theorem dX5_digest_197 : decode cX5_digest 197 = .ok (.getfield 132, 3) := by decide +kernel
theorem dX5_digest_200 : decode cX5_digest 200 = .ok (.i2l, 1) := by decide +kernel
theorem dX5_digest_201 : decode cX5_digest 201 = .ok (.invokevirtual 179, 3) := by decide +kernel
theorem dX5_digest_204 : decode cX5_digest 204 = .ok (.aload_n 0, 1) := by decide +kernel
theorem dX5_digest_205 : decode cX5_digest 205 = .ok (.getfield 173, 3) := by decide +kernel
theorem dX5_digest_208 : decode cX5_digest 208 = .ok (.lreturn, 1) := by decide +kernel
theorem dL_law_0 : decode cL_law 0 = .ok (.new 7, 3) := by decide +kernel
theorem dL_law_3 : decode cL_law 3 = .ok (.dup, 1) := by decide +kernel
theorem dL_law_4 : decode cL_law 4 = .ok (.invokespecial 9, 3) := by decide +kernel
theorem dL_law_7 : decode cL_law 7 = .ok (.astore_n 1, 1) := by decide +kernel
theorem dL_law_8 : decode cL_law 8 = .ok (.new 10, 3) := by decide +kernel
theorem dL_law_11 : decode cL_law 11 = .ok (.dup, 1) := by decide +kernel
theorem dL_law_12 : decode cL_law 12 = .ok (.invokespecial 12, 3) := by decide +kernel
theorem dL_law_15 : decode cL_law 15 = .ok (.astore_n 2, 1) := by decide +kernel
theorem dL_law_16 : decode cL_law 16 = .ok (.iconst 0, 1) := by decide +kernel
theorem dL_law_17 : decode cL_law 17 = .ok (.istore_n 3, 1) := by decide +kernel
theorem dL_law_18 : decode cL_law 18 = .ok (.iload_n 3, 1) := by decide +kernel
theorem dL_law_19 : decode cL_law 19 = .ok (.aload_n 0, 1) := by decide +kernel
theorem dL_law_20 : decode cL_law 20 = .ok (.arraylength, 1) := by decide +kernel
theorem dL_law_21 : decode cL_law 21 = .ok (.iconst 4, 1) := by decide +kernel
theorem dL_law_22 : decode cL_law 22 = .ok (.isub, 1) := by decide +kernel
theorem dL_law_23 : decode cL_law 23 = .ok (.if_icmp .gt 937, 3) := by decide +kernel
theorem dL_law_26 : decode cL_law 26 = .ok (.aload_n 0, 1) := by decide +kernel
theorem dL_law_27 : decode cL_law 27 = .ok (.iload_n 3, 1) := by decide +kernel
theorem dL_law_28 : decode cL_law 28 = .ok (.iaload, 1) := by decide +kernel
theorem dL_law_29 : decode cL_law 29 = .ok (.bipush 31, 2) := by decide +kernel
theorem dL_law_31 : decode cL_law 31 = .ok (.iand, 1) := by decide +kernel
theorem dL_law_32 : decode cL_law 32 = .ok (.tableswitch 922 0 27 #[128, 151, 164, 177, 200, 243, 286, 335, 368, 391, 414, 437, 460, 483, 506, 539, 562, 585, 598, 611, 654, 697, 731, 795, 819, 852, 885, 908], 128) := by decide +kernel
theorem dL_law_160 : decode cL_law 160 = .ok (.aload_n 1, 1) := by decide +kernel
theorem dL_law_161 : decode cL_law 161 = .ok (.aload_n 0, 1) := by decide +kernel
theorem dL_law_162 : decode cL_law 162 = .ok (.iload_n 3, 1) := by decide +kernel
theorem dL_law_163 : decode cL_law 163 = .ok (.iconst 1, 1) := by decide +kernel
theorem dL_law_164 : decode cL_law 164 = .ok (.iadd, 1) := by decide +kernel
theorem dL_law_165 : decode cL_law 165 = .ok (.iaload, 1) := by decide +kernel
theorem dL_law_166 : decode cL_law 166 = .ok (.invokevirtual 13, 3) := by decide +kernel
theorem dL_law_169 : decode cL_law 169 = .ok (.aload_n 2, 1) := by decide +kernel
theorem dL_law_170 : decode cL_law 170 = .ok (.aload_n 0, 1) := by decide +kernel
theorem dL_law_171 : decode cL_law 171 = .ok (.iload_n 3, 1) := by decide +kernel
theorem dL_law_172 : decode cL_law 172 = .ok (.iconst 1, 1) := by decide +kernel
theorem dL_law_173 : decode cL_law 173 = .ok (.iadd, 1) := by decide +kernel
theorem dL_law_174 : decode cL_law 174 = .ok (.iaload, 1) := by decide +kernel
theorem dL_law_175 : decode cL_law 175 = .ok (.invokevirtual 17, 3) := by decide +kernel
theorem dL_law_178 : decode cL_law 178 = .ok (.if_icmp .eq 776, 3) := by decide +kernel
theorem dL_law_181 : decode cL_law 181 = .ok (.iconst 0, 1) := by decide +kernel
theorem dL_law_182 : decode cL_law 182 = .ok (.ireturn, 1) := by decide +kernel
theorem dL_law_183 : decode cL_law 183 = .ok (.aload_n 1, 1) := by decide +kernel
theorem dL_law_184 : decode cL_law 184 = .ok (.invokevirtual 18, 3) := by decide +kernel
theorem dL_law_187 : decode cL_law 187 = .ok (.aload_n 2, 1) := by decide +kernel
theorem dL_law_188 : decode cL_law 188 = .ok (.invokevirtual 22, 3) := by decide +kernel
theorem dL_law_191 : decode cL_law 191 = .ok (.if_icmp .eq 763, 3) := by decide +kernel
theorem dL_law_194 : decode cL_law 194 = .ok (.iconst 0, 1) := by decide +kernel
theorem dL_law_195 : decode cL_law 195 = .ok (.ireturn, 1) := by decide +kernel
theorem dL_law_196 : decode cL_law 196 = .ok (.aload_n 1, 1) := by decide +kernel
theorem dL_law_197 : decode cL_law 197 = .ok (.invokevirtual 23, 3) := by decide +kernel
theorem dL_law_200 : decode cL_law 200 = .ok (.aload_n 2, 1) := by decide +kernel
theorem dL_law_201 : decode cL_law 201 = .ok (.invokevirtual 26, 3) := by decide +kernel
theorem dL_law_204 : decode cL_law 204 = .ok (.if_icmp .eq 750, 3) := by decide +kernel
theorem dL_law_207 : decode cL_law 207 = .ok (.iconst 0, 1) := by decide +kernel
theorem dL_law_208 : decode cL_law 208 = .ok (.ireturn, 1) := by decide +kernel
theorem dL_law_209 : decode cL_law 209 = .ok (.aload_n 1, 1) := by decide +kernel
theorem dL_law_210 : decode cL_law 210 = .ok (.aload_n 0, 1) := by decide +kernel
theorem dL_law_211 : decode cL_law 211 = .ok (.iload_n 3, 1) := by decide +kernel
theorem dL_law_212 : decode cL_law 212 = .ok (.iconst 1, 1) := by decide +kernel
theorem dL_law_213 : decode cL_law 213 = .ok (.iadd, 1) := by decide +kernel
theorem dL_law_214 : decode cL_law 214 = .ok (.iaload, 1) := by decide +kernel
theorem dL_law_215 : decode cL_law 215 = .ok (.invokevirtual 27, 3) := by decide +kernel
theorem dL_law_218 : decode cL_law 218 = .ok (.aload_n 2, 1) := by decide +kernel
theorem dL_law_219 : decode cL_law 219 = .ok (.aload_n 0, 1) := by decide +kernel
theorem dL_law_220 : decode cL_law 220 = .ok (.iload_n 3, 1) := by decide +kernel
theorem dL_law_221 : decode cL_law 221 = .ok (.iconst 1, 1) := by decide +kernel
theorem dL_law_222 : decode cL_law 222 = .ok (.iadd, 1) := by decide +kernel
theorem dL_law_223 : decode cL_law 223 = .ok (.iaload, 1) := by decide +kernel
theorem dL_law_224 : decode cL_law 224 = .ok (.invokevirtual 30, 3) := by decide +kernel
theorem dL_law_227 : decode cL_law 227 = .ok (.if_icmp .eq 727, 3) := by decide +kernel
theorem dL_law_230 : decode cL_law 230 = .ok (.iconst 0, 1) := by decide +kernel
theorem dL_law_231 : decode cL_law 231 = .ok (.ireturn, 1) := by decide +kernel
theorem dL_law_232 : decode cL_law 232 = .ok (.aload_n 1, 1) := by decide +kernel
theorem dL_law_233 : decode cL_law 233 = .ok (.aload_n 0, 1) := by decide +kernel
theorem dL_law_234 : decode cL_law 234 = .ok (.iload_n 3, 1) := by decide +kernel
theorem dL_law_235 : decode cL_law 235 = .ok (.iconst 1, 1) := by decide +kernel
theorem dL_law_236 : decode cL_law 236 = .ok (.iadd, 1) := by decide +kernel
theorem dL_law_237 : decode cL_law 237 = .ok (.iaload, 1) := by decide +kernel
theorem dL_law_238 : decode cL_law 238 = .ok (.aload_n 0, 1) := by decide +kernel
theorem dL_law_239 : decode cL_law 239 = .ok (.iload_n 3, 1) := by decide +kernel
theorem dL_law_240 : decode cL_law 240 = .ok (.iconst 2, 1) := by decide +kernel
theorem dL_law_241 : decode cL_law 241 = .ok (.iadd, 1) := by decide +kernel
theorem dL_law_242 : decode cL_law 242 = .ok (.iaload, 1) := by decide +kernel
theorem dL_law_243 : decode cL_law 243 = .ok (.aload_n 0, 1) := by decide +kernel
theorem dL_law_244 : decode cL_law 244 = .ok (.iload_n 3, 1) := by decide +kernel
theorem dL_law_245 : decode cL_law 245 = .ok (.iconst 3, 1) := by decide +kernel
theorem dL_law_246 : decode cL_law 246 = .ok (.iadd, 1) := by decide +kernel
theorem dL_law_247 : decode cL_law 247 = .ok (.iaload, 1) := by decide +kernel
theorem dL_law_248 : decode cL_law 248 = .ok (.invokevirtual 31, 3) := by decide +kernel
theorem dL_law_251 : decode cL_law 251 = .ok (.aload_n 2, 1) := by decide +kernel
theorem dL_law_252 : decode cL_law 252 = .ok (.aload_n 0, 1) := by decide +kernel
theorem dL_law_253 : decode cL_law 253 = .ok (.iload_n 3, 1) := by decide +kernel
theorem dL_law_254 : decode cL_law 254 = .ok (.iconst 1, 1) := by decide +kernel
theorem dL_law_255 : decode cL_law 255 = .ok (.iadd, 1) := by decide +kernel
theorem dL_law_256 : decode cL_law 256 = .ok (.iaload, 1) := by decide +kernel
theorem dL_law_257 : decode cL_law 257 = .ok (.aload_n 0, 1) := by decide +kernel
theorem dL_law_258 : decode cL_law 258 = .ok (.iload_n 3, 1) := by decide +kernel
theorem dL_law_259 : decode cL_law 259 = .ok (.iconst 2, 1) := by decide +kernel
theorem dL_law_260 : decode cL_law 260 = .ok (.iadd, 1) := by decide +kernel
theorem dL_law_261 : decode cL_law 261 = .ok (.iaload, 1) := by decide +kernel
theorem dL_law_262 : decode cL_law 262 = .ok (.aload_n 0, 1) := by decide +kernel
theorem dL_law_263 : decode cL_law 263 = .ok (.iload_n 3, 1) := by decide +kernel
theorem dL_law_264 : decode cL_law 264 = .ok (.iconst 3, 1) := by decide +kernel
theorem dL_law_265 : decode cL_law 265 = .ok (.iadd, 1) := by decide +kernel
theorem dL_law_266 : decode cL_law 266 = .ok (.iaload, 1) := by decide +kernel
theorem dL_law_267 : decode cL_law 267 = .ok (.invokevirtual 35, 3) := by decide +kernel
theorem dL_law_270 : decode cL_law 270 = .ok (.if_icmp .eq 684, 3) := by decide +kernel
theorem dL_law_273 : decode cL_law 273 = .ok (.iconst 0, 1) := by decide +kernel
theorem dL_law_274 : decode cL_law 274 = .ok (.ireturn, 1) := by decide +kernel
theorem dL_law_275 : decode cL_law 275 = .ok (.aload_n 1, 1) := by decide +kernel
theorem dL_law_276 : decode cL_law 276 = .ok (.aload_n 0, 1) := by decide +kernel
theorem dL_law_277 : decode cL_law 277 = .ok (.iload_n 3, 1) := by decide +kernel
theorem dL_law_278 : decode cL_law 278 = .ok (.iconst 1, 1) := by decide +kernel
theorem dL_law_279 : decode cL_law 279 = .ok (.iadd, 1) := by decide +kernel
theorem dL_law_280 : decode cL_law 280 = .ok (.iaload, 1) := by decide +kernel
theorem dL_law_281 : decode cL_law 281 = .ok (.aload_n 0, 1) := by decide +kernel
theorem dL_law_282 : decode cL_law 282 = .ok (.iload_n 3, 1) := by decide +kernel
theorem dL_law_283 : decode cL_law 283 = .ok (.iconst 2, 1) := by decide +kernel
theorem dL_law_284 : decode cL_law 284 = .ok (.iadd, 1) := by decide +kernel
theorem dL_law_285 : decode cL_law 285 = .ok (.iaload, 1) := by decide +kernel
theorem dL_law_286 : decode cL_law 286 = .ok (.aload_n 0, 1) := by decide +kernel
theorem dL_law_287 : decode cL_law 287 = .ok (.iload_n 3, 1) := by decide +kernel
theorem dL_law_288 : decode cL_law 288 = .ok (.iconst 3, 1) := by decide +kernel
theorem dL_law_289 : decode cL_law 289 = .ok (.iadd, 1) := by decide +kernel
theorem dL_law_290 : decode cL_law 290 = .ok (.iaload, 1) := by decide +kernel
theorem dL_law_291 : decode cL_law 291 = .ok (.invokevirtual 36, 3) := by decide +kernel
theorem dL_law_294 : decode cL_law 294 = .ok (.aload_n 2, 1) := by decide +kernel
theorem dL_law_295 : decode cL_law 295 = .ok (.aload_n 0, 1) := by decide +kernel
theorem dL_law_296 : decode cL_law 296 = .ok (.iload_n 3, 1) := by decide +kernel
theorem dL_law_297 : decode cL_law 297 = .ok (.iconst 1, 1) := by decide +kernel
theorem dL_law_298 : decode cL_law 298 = .ok (.iadd, 1) := by decide +kernel
theorem dL_law_299 : decode cL_law 299 = .ok (.iaload, 1) := by decide +kernel
theorem dL_law_300 : decode cL_law 300 = .ok (.aload_n 0, 1) := by decide +kernel
theorem dL_law_301 : decode cL_law 301 = .ok (.iload_n 3, 1) := by decide +kernel
theorem dL_law_302 : decode cL_law 302 = .ok (.iconst 2, 1) := by decide +kernel
theorem dL_law_303 : decode cL_law 303 = .ok (.iadd, 1) := by decide +kernel
theorem dL_law_304 : decode cL_law 304 = .ok (.iaload, 1) := by decide +kernel
theorem dL_law_305 : decode cL_law 305 = .ok (.aload_n 0, 1) := by decide +kernel
theorem dL_law_306 : decode cL_law 306 = .ok (.iload_n 3, 1) := by decide +kernel
theorem dL_law_307 : decode cL_law 307 = .ok (.iconst 3, 1) := by decide +kernel
theorem dL_law_308 : decode cL_law 308 = .ok (.iadd, 1) := by decide +kernel
theorem dL_law_309 : decode cL_law 309 = .ok (.iaload, 1) := by decide +kernel
theorem dL_law_310 : decode cL_law 310 = .ok (.invokevirtual 39, 3) := by decide +kernel
theorem dL_law_313 : decode cL_law 313 = .ok (.if_icmp .eq 641, 3) := by decide +kernel
theorem dL_law_316 : decode cL_law 316 = .ok (.iconst 0, 1) := by decide +kernel
theorem dL_law_317 : decode cL_law 317 = .ok (.ireturn, 1) := by decide +kernel
theorem dL_law_318 : decode cL_law 318 = .ok (.aload_n 1, 1) := by decide +kernel
theorem dL_law_319 : decode cL_law 319 = .ok (.aload_n 0, 1) := by decide +kernel
theorem dL_law_320 : decode cL_law 320 = .ok (.iload_n 3, 1) := by decide +kernel
theorem dL_law_321 : decode cL_law 321 = .ok (.iconst 1, 1) := by decide +kernel
theorem dL_law_322 : decode cL_law 322 = .ok (.iadd, 1) := by decide +kernel
theorem dL_law_323 : decode cL_law 323 = .ok (.iaload, 1) := by decide +kernel
theorem dL_law_324 : decode cL_law 324 = .ok (.aload_n 0, 1) := by decide +kernel
theorem dL_law_325 : decode cL_law 325 = .ok (.iload_n 3, 1) := by decide +kernel
theorem dL_law_326 : decode cL_law 326 = .ok (.iconst 2, 1) := by decide +kernel
theorem dL_law_327 : decode cL_law 327 = .ok (.iadd, 1) := by decide +kernel
theorem dL_law_328 : decode cL_law 328 = .ok (.iaload, 1) := by decide +kernel
theorem dL_law_329 : decode cL_law 329 = .ok (.ifCond .eq 7, 3) := by decide +kernel
theorem dL_law_332 : decode cL_law 332 = .ok (.iconst 1, 1) := by decide +kernel
theorem dL_law_333 : decode cL_law 333 = .ok (.goto 4, 3) := by decide +kernel
theorem dL_law_336 : decode cL_law 336 = .ok (.iconst 0, 1) := by decide +kernel
theorem dL_law_337 : decode cL_law 337 = .ok (.invokevirtual 40, 3) := by decide +kernel
theorem dL_law_340 : decode cL_law 340 = .ok (.aload_n 2, 1) := by decide +kernel
theorem dL_law_341 : decode cL_law 341 = .ok (.aload_n 0, 1) := by decide +kernel
theorem dL_law_342 : decode cL_law 342 = .ok (.iload_n 3, 1) := by decide +kernel
theorem dL_law_343 : decode cL_law 343 = .ok (.iconst 1, 1) := by decide +kernel
theorem dL_law_344 : decode cL_law 344 = .ok (.iadd, 1) := by decide +kernel
theorem dL_law_345 : decode cL_law 345 = .ok (.iaload, 1) := by decide +kernel
theorem dL_law_346 : decode cL_law 346 = .ok (.aload_n 0, 1) := by decide +kernel
theorem dL_law_347 : decode cL_law 347 = .ok (.iload_n 3, 1) := by decide +kernel
theorem dL_law_348 : decode cL_law 348 = .ok (.iconst 2, 1) := by decide +kernel
theorem dL_law_349 : decode cL_law 349 = .ok (.iadd, 1) := by decide +kernel
theorem dL_law_350 : decode cL_law 350 = .ok (.iaload, 1) := by decide +kernel
theorem dL_law_351 : decode cL_law 351 = .ok (.ifCond .eq 7, 3) := by decide +kernel
theorem dL_law_354 : decode cL_law 354 = .ok (.iconst 1, 1) := by decide +kernel
theorem dL_law_355 : decode cL_law 355 = .ok (.goto 4, 3) := by decide +kernel
theorem dL_law_358 : decode cL_law 358 = .ok (.iconst 0, 1) := by decide +kernel
theorem dL_law_359 : decode cL_law 359 = .ok (.invokevirtual 44, 3) := by decide +kernel
theorem dL_law_362 : decode cL_law 362 = .ok (.if_icmp .eq 592, 3) := by decide +kernel
theorem dL_law_365 : decode cL_law 365 = .ok (.iconst 0, 1) := by decide +kernel
theorem dL_law_366 : decode cL_law 366 = .ok (.ireturn, 1) := by decide +kernel
theorem dL_law_367 : decode cL_law 367 = .ok (.aload_n 1, 1) := by decide +kernel
theorem dL_law_368 : decode cL_law 368 = .ok (.aload_n 0, 1) := by decide +kernel
theorem dL_law_369 : decode cL_law 369 = .ok (.iload_n 3, 1) := by decide +kernel
theorem dL_law_370 : decode cL_law 370 = .ok (.iconst 1, 1) := by decide +kernel
theorem dL_law_371 : decode cL_law 371 = .ok (.iadd, 1) := by decide +kernel
theorem dL_law_372 : decode cL_law 372 = .ok (.iaload, 1) := by decide +kernel
theorem dL_law_373 : decode cL_law 373 = .ok (.aload_n 0, 1) := by decide +kernel
theorem dL_law_374 : decode cL_law 374 = .ok (.iload_n 3, 1) := by decide +kernel
theorem dL_law_375 : decode cL_law 375 = .ok (.iconst 2, 1) := by decide +kernel
theorem dL_law_376 : decode cL_law 376 = .ok (.iadd, 1) := by decide +kernel
theorem dL_law_377 : decode cL_law 377 = .ok (.iaload, 1) := by decide +kernel
theorem dL_law_378 : decode cL_law 378 = .ok (.invokevirtual 45, 3) := by decide +kernel
theorem dL_law_381 : decode cL_law 381 = .ok (.aload_n 2, 1) := by decide +kernel
theorem dL_law_382 : decode cL_law 382 = .ok (.aload_n 0, 1) := by decide +kernel
theorem dL_law_383 : decode cL_law 383 = .ok (.iload_n 3, 1) := by decide +kernel
theorem dL_law_384 : decode cL_law 384 = .ok (.iconst 1, 1) := by decide +kernel
theorem dL_law_385 : decode cL_law 385 = .ok (.iadd, 1) := by decide +kernel
theorem dL_law_386 : decode cL_law 386 = .ok (.iaload, 1) := by decide +kernel
theorem dL_law_387 : decode cL_law 387 = .ok (.aload_n 0, 1) := by decide +kernel
theorem dL_law_388 : decode cL_law 388 = .ok (.iload_n 3, 1) := by decide +kernel
theorem dL_law_389 : decode cL_law 389 = .ok (.iconst 2, 1) := by decide +kernel
theorem dL_law_390 : decode cL_law 390 = .ok (.iadd, 1) := by decide +kernel
theorem dL_law_391 : decode cL_law 391 = .ok (.iaload, 1) := by decide +kernel
theorem dL_law_392 : decode cL_law 392 = .ok (.invokevirtual 49, 3) := by decide +kernel
theorem dL_law_395 : decode cL_law 395 = .ok (.if_icmp .eq 559, 3) := by decide +kernel
theorem dL_law_398 : decode cL_law 398 = .ok (.iconst 0, 1) := by decide +kernel
theorem dL_law_399 : decode cL_law 399 = .ok (.ireturn, 1) := by decide +kernel
theorem dL_law_400 : decode cL_law 400 = .ok (.aload_n 1, 1) := by decide +kernel
theorem dL_law_401 : decode cL_law 401 = .ok (.aload_n 0, 1) := by decide +kernel
theorem dL_law_402 : decode cL_law 402 = .ok (.iload_n 3, 1) := by decide +kernel
theorem dL_law_403 : decode cL_law 403 = .ok (.iconst 1, 1) := by decide +kernel
theorem dL_law_404 : decode cL_law 404 = .ok (.iadd, 1) := by decide +kernel
theorem dL_law_405 : decode cL_law 405 = .ok (.iaload, 1) := by decide +kernel
theorem dL_law_406 : decode cL_law 406 = .ok (.invokevirtual 50, 3) := by decide +kernel
theorem dL_law_409 : decode cL_law 409 = .ok (.aload_n 2, 1) := by decide +kernel
theorem dL_law_410 : decode cL_law 410 = .ok (.aload_n 0, 1) := by decide +kernel
theorem dL_law_411 : decode cL_law 411 = .ok (.iload_n 3, 1) := by decide +kernel
theorem dL_law_412 : decode cL_law 412 = .ok (.iconst 1, 1) := by decide +kernel
theorem dL_law_413 : decode cL_law 413 = .ok (.iadd, 1) := by decide +kernel
theorem dL_law_414 : decode cL_law 414 = .ok (.iaload, 1) := by decide +kernel
theorem dL_law_415 : decode cL_law 415 = .ok (.invokevirtual 53, 3) := by decide +kernel
theorem dL_law_418 : decode cL_law 418 = .ok (.if_icmp .eq 536, 3) := by decide +kernel
theorem dL_law_421 : decode cL_law 421 = .ok (.iconst 0, 1) := by decide +kernel
theorem dL_law_422 : decode cL_law 422 = .ok (.ireturn, 1) := by decide +kernel
theorem dL_law_423 : decode cL_law 423 = .ok (.aload_n 1, 1) := by decide +kernel
theorem dL_law_424 : decode cL_law 424 = .ok (.aload_n 0, 1) := by decide +kernel
theorem dL_law_425 : decode cL_law 425 = .ok (.iload_n 3, 1) := by decide +kernel
theorem dL_law_426 : decode cL_law 426 = .ok (.iconst 1, 1) := by decide +kernel
theorem dL_law_427 : decode cL_law 427 = .ok (.iadd, 1) := by decide +kernel
theorem dL_law_428 : decode cL_law 428 = .ok (.iaload, 1) := by decide +kernel
theorem dL_law_429 : decode cL_law 429 = .ok (.invokevirtual 54, 3) := by decide +kernel
theorem dL_law_432 : decode cL_law 432 = .ok (.aload_n 2, 1) := by decide +kernel
theorem dL_law_433 : decode cL_law 433 = .ok (.aload_n 0, 1) := by decide +kernel
theorem dL_law_434 : decode cL_law 434 = .ok (.iload_n 3, 1) := by decide +kernel
theorem dL_law_435 : decode cL_law 435 = .ok (.iconst 1, 1) := by decide +kernel
theorem dL_law_436 : decode cL_law 436 = .ok (.iadd, 1) := by decide +kernel
theorem dL_law_437 : decode cL_law 437 = .ok (.iaload, 1) := by decide +kernel
theorem dL_law_438 : decode cL_law 438 = .ok (.invokevirtual 57, 3) := by decide +kernel
theorem dL_law_441 : decode cL_law 441 = .ok (.if_icmp .eq 513, 3) := by decide +kernel
theorem dL_law_444 : decode cL_law 444 = .ok (.iconst 0, 1) := by decide +kernel
theorem dL_law_445 : decode cL_law 445 = .ok (.ireturn, 1) := by decide +kernel
theorem dL_law_446 : decode cL_law 446 = .ok (.aload_n 1, 1) := by decide +kernel
theorem dL_law_447 : decode cL_law 447 = .ok (.aload_n 0, 1) := by decide +kernel
theorem dL_law_448 : decode cL_law 448 = .ok (.iload_n 3, 1) := by decide +kernel
theorem dL_law_449 : decode cL_law 449 = .ok (.iconst 1, 1) := by decide +kernel
theorem dL_law_450 : decode cL_law 450 = .ok (.iadd, 1) := by decide +kernel
theorem dL_law_451 : decode cL_law 451 = .ok (.iaload, 1) := by decide +kernel
theorem dL_law_452 : decode cL_law 452 = .ok (.invokevirtual 58, 3) := by decide +kernel
theorem dL_law_455 : decode cL_law 455 = .ok (.aload_n 2, 1) := by decide +kernel
theorem dL_law_456 : decode cL_law 456 = .ok (.aload_n 0, 1) := by decide +kernel
theorem dL_law_457 : decode cL_law 457 = .ok (.iload_n 3, 1) := by decide +kernel
theorem dL_law_458 : decode cL_law 458 = .ok (.iconst 1, 1) := by decide +kernel
theorem dL_law_459 : decode cL_law 459 = .ok (.iadd, 1) := by decide +kernel
theorem dL_law_460 : decode cL_law 460 = .ok (.iaload, 1) := by decide +kernel
theorem dL_law_461 : decode cL_law 461 = .ok (.invokevirtual 61, 3) := by decide +kernel
theorem dL_law_464 : decode cL_law 464 = .ok (.if_icmp .eq 490, 3) := by decide +kernel
theorem dL_law_467 : decode cL_law 467 = .ok (.iconst 0, 1) := by decide +kernel
theorem dL_law_468 : decode cL_law 468 = .ok (.ireturn, 1) := by decide +kernel
theorem dL_law_469 : decode cL_law 469 = .ok (.aload_n 1, 1) := by decide +kernel
theorem dL_law_470 : decode cL_law 470 = .ok (.aload_n 0, 1) := by decide +kernel
theorem dL_law_471 : decode cL_law 471 = .ok (.iload_n 3, 1) := by decide +kernel
theorem dL_law_472 : decode cL_law 472 = .ok (.iconst 1, 1) := by decide +kernel
theorem dL_law_473 : decode cL_law 473 = .ok (.iadd, 1) := by decide +kernel
theorem dL_law_474 : decode cL_law 474 = .ok (.iaload, 1) := by decide +kernel
theorem dL_law_475 : decode cL_law 475 = .ok (.invokevirtual 62, 3) := by decide +kernel
theorem dL_law_478 : decode cL_law 478 = .ok (.aload_n 2, 1) := by decide +kernel
theorem dL_law_479 : decode cL_law 479 = .ok (.aload_n 0, 1) := by decide +kernel
theorem dL_law_480 : decode cL_law 480 = .ok (.iload_n 3, 1) := by decide +kernel
theorem dL_law_481 : decode cL_law 481 = .ok (.iconst 1, 1) := by decide +kernel
theorem dL_law_482 : decode cL_law 482 = .ok (.iadd, 1) := by decide +kernel
theorem dL_law_483 : decode cL_law 483 = .ok (.iaload, 1) := by decide +kernel
theorem dL_law_484 : decode cL_law 484 = .ok (.invokevirtual 65, 3) := by decide +kernel
theorem dL_law_487 : decode cL_law 487 = .ok (.if_icmp .eq 467, 3) := by decide +kernel
theorem dL_law_490 : decode cL_law 490 = .ok (.iconst 0, 1) := by decide +kernel
theorem dL_law_491 : decode cL_law 491 = .ok (.ireturn, 1) := by decide +kernel
theorem dL_law_492 : decode cL_law 492 = .ok (.aload_n 1, 1) := by decide +kernel
theorem dL_law_493 : decode cL_law 493 = .ok (.aload_n 0, 1) := by decide +kernel
theorem dL_law_494 : decode cL_law 494 = .ok (.iload_n 3, 1) := by decide +kernel
theorem dL_law_495 : decode cL_law 495 = .ok (.iconst 1, 1) := by decide +kernel
theorem dL_law_496 : decode cL_law 496 = .ok (.iadd, 1) := by decide +kernel
theorem dL_law_497 : decode cL_law 497 = .ok (.iaload, 1) := by decide +kernel
theorem dL_law_498 : decode cL_law 498 = .ok (.invokevirtual 66, 3) := by decide +kernel
theorem dL_law_501 : decode cL_law 501 = .ok (.aload_n 2, 1) := by decide +kernel
theorem dL_law_502 : decode cL_law 502 = .ok (.aload_n 0, 1) := by decide +kernel
theorem dL_law_503 : decode cL_law 503 = .ok (.iload_n 3, 1) := by decide +kernel
theorem dL_law_504 : decode cL_law 504 = .ok (.iconst 1, 1) := by decide +kernel
theorem dL_law_505 : decode cL_law 505 = .ok (.iadd, 1) := by decide +kernel
theorem dL_law_506 : decode cL_law 506 = .ok (.iaload, 1) := by decide +kernel
theorem dL_law_507 : decode cL_law 507 = .ok (.invokevirtual 69, 3) := by decide +kernel
theorem dL_law_510 : decode cL_law 510 = .ok (.if_icmp .eq 444, 3) := by decide +kernel
theorem dL_law_513 : decode cL_law 513 = .ok (.iconst 0, 1) := by decide +kernel
theorem dL_law_514 : decode cL_law 514 = .ok (.ireturn, 1) := by decide +kernel
theorem dL_law_515 : decode cL_law 515 = .ok (.aload_n 1, 1) := by decide +kernel
theorem dL_law_516 : decode cL_law 516 = .ok (.aload_n 0, 1) := by decide +kernel
theorem dL_law_517 : decode cL_law 517 = .ok (.iload_n 3, 1) := by decide +kernel
theorem dL_law_518 : decode cL_law 518 = .ok (.iconst 1, 1) := by decide +kernel
theorem dL_law_519 : decode cL_law 519 = .ok (.iadd, 1) := by decide +kernel
theorem dL_law_520 : decode cL_law 520 = .ok (.iaload, 1) := by decide +kernel
theorem dL_law_521 : decode cL_law 521 = .ok (.invokevirtual 70, 3) := by decide +kernel
theorem dL_law_524 : decode cL_law 524 = .ok (.aload_n 2, 1) := by decide +kernel
theorem dL_law_525 : decode cL_law 525 = .ok (.aload_n 0, 1) := by decide +kernel
theorem dL_law_526 : decode cL_law 526 = .ok (.iload_n 3, 1) := by decide +kernel
theorem dL_law_527 : decode cL_law 527 = .ok (.iconst 1, 1) := by decide +kernel
theorem dL_law_528 : decode cL_law 528 = .ok (.iadd, 1) := by decide +kernel
theorem dL_law_529 : decode cL_law 529 = .ok (.iaload, 1) := by decide +kernel
theorem dL_law_530 : decode cL_law 530 = .ok (.invokevirtual 73, 3) := by decide +kernel
theorem dL_law_533 : decode cL_law 533 = .ok (.if_icmp .eq 421, 3) := by decide +kernel
theorem dL_law_536 : decode cL_law 536 = .ok (.iconst 0, 1) := by decide +kernel
theorem dL_law_537 : decode cL_law 537 = .ok (.ireturn, 1) := by decide +kernel
theorem dL_law_538 : decode cL_law 538 = .ok (.aload_n 1, 1) := by decide +kernel
theorem dL_law_539 : decode cL_law 539 = .ok (.aload_n 0, 1) := by decide +kernel
theorem dL_law_540 : decode cL_law 540 = .ok (.iload_n 3, 1) := by decide +kernel
theorem dL_law_541 : decode cL_law 541 = .ok (.iconst 1, 1) := by decide +kernel
theorem dL_law_542 : decode cL_law 542 = .ok (.iadd, 1) := by decide +kernel
theorem dL_law_543 : decode cL_law 543 = .ok (.iaload, 1) := by decide +kernel
theorem dL_law_544 : decode cL_law 544 = .ok (.aload_n 0, 1) := by decide +kernel
theorem dL_law_545 : decode cL_law 545 = .ok (.iload_n 3, 1) := by decide +kernel
theorem dL_law_546 : decode cL_law 546 = .ok (.iconst 2, 1) := by decide +kernel
theorem dL_law_547 : decode cL_law 547 = .ok (.iadd, 1) := by decide +kernel
theorem dL_law_548 : decode cL_law 548 = .ok (.iaload, 1) := by decide +kernel
theorem dL_law_549 : decode cL_law 549 = .ok (.invokevirtual 74, 3) := by decide +kernel
theorem dL_law_552 : decode cL_law 552 = .ok (.aload_n 2, 1) := by decide +kernel
theorem dL_law_553 : decode cL_law 553 = .ok (.aload_n 0, 1) := by decide +kernel
theorem dL_law_554 : decode cL_law 554 = .ok (.iload_n 3, 1) := by decide +kernel
theorem dL_law_555 : decode cL_law 555 = .ok (.iconst 1, 1) := by decide +kernel
theorem dL_law_556 : decode cL_law 556 = .ok (.iadd, 1) := by decide +kernel
theorem dL_law_557 : decode cL_law 557 = .ok (.iaload, 1) := by decide +kernel
theorem dL_law_558 : decode cL_law 558 = .ok (.aload_n 0, 1) := by decide +kernel
theorem dL_law_559 : decode cL_law 559 = .ok (.iload_n 3, 1) := by decide +kernel
theorem dL_law_560 : decode cL_law 560 = .ok (.iconst 2, 1) := by decide +kernel
theorem dL_law_561 : decode cL_law 561 = .ok (.iadd, 1) := by decide +kernel
theorem dL_law_562 : decode cL_law 562 = .ok (.iaload, 1) := by decide +kernel
theorem dL_law_563 : decode cL_law 563 = .ok (.invokevirtual 77, 3) := by decide +kernel
theorem dL_law_566 : decode cL_law 566 = .ok (.if_icmp .eq 388, 3) := by decide +kernel
theorem dL_law_569 : decode cL_law 569 = .ok (.iconst 0, 1) := by decide +kernel
theorem dL_law_570 : decode cL_law 570 = .ok (.ireturn, 1) := by decide +kernel
theorem dL_law_571 : decode cL_law 571 = .ok (.aload_n 1, 1) := by decide +kernel
theorem dL_law_572 : decode cL_law 572 = .ok (.aload_n 0, 1) := by decide +kernel
theorem dL_law_573 : decode cL_law 573 = .ok (.iload_n 3, 1) := by decide +kernel
theorem dL_law_574 : decode cL_law 574 = .ok (.iconst 1, 1) := by decide +kernel
theorem dL_law_575 : decode cL_law 575 = .ok (.iadd, 1) := by decide +kernel
theorem dL_law_576 : decode cL_law 576 = .ok (.iaload, 1) := by decide +kernel
theorem dL_law_577 : decode cL_law 577 = .ok (.invokevirtual 78, 3) := by decide +kernel
theorem dL_law_580 : decode cL_law 580 = .ok (.aload_n 2, 1) := by decide +kernel
theorem dL_law_581 : decode cL_law 581 = .ok (.aload_n 0, 1) := by decide +kernel
theorem dL_law_582 : decode cL_law 582 = .ok (.iload_n 3, 1) := by decide +kernel
theorem dL_law_583 : decode cL_law 583 = .ok (.iconst 1, 1) := by decide +kernel
theorem dL_law_584 : decode cL_law 584 = .ok (.iadd, 1) := by decide +kernel
theorem dL_law_585 : decode cL_law 585 = .ok (.iaload, 1) := by decide +kernel
theorem dL_law_586 : decode cL_law 586 = .ok (.invokevirtual 81, 3) := by decide +kernel
theorem dL_law_589 : decode cL_law 589 = .ok (.if_icmp .eq 365, 3) := by decide +kernel
theorem dL_law_592 : decode cL_law 592 = .ok (.iconst 0, 1) := by decide +kernel
theorem dL_law_593 : decode cL_law 593 = .ok (.ireturn, 1) := by decide +kernel
theorem dL_law_594 : decode cL_law 594 = .ok (.aload_n 1, 1) := by decide +kernel
theorem dL_law_595 : decode cL_law 595 = .ok (.aload_n 0, 1) := by decide +kernel
theorem dL_law_596 : decode cL_law 596 = .ok (.iload_n 3, 1) := by decide +kernel
theorem dL_law_597 : decode cL_law 597 = .ok (.iconst 1, 1) := by decide +kernel
theorem dL_law_598 : decode cL_law 598 = .ok (.iadd, 1) := by decide +kernel
theorem dL_law_599 : decode cL_law 599 = .ok (.iaload, 1) := by decide +kernel
theorem dL_law_600 : decode cL_law 600 = .ok (.invokevirtual 82, 3) := by decide +kernel
theorem dL_law_603 : decode cL_law 603 = .ok (.aload_n 2, 1) := by decide +kernel
theorem dL_law_604 : decode cL_law 604 = .ok (.aload_n 0, 1) := by decide +kernel
theorem dL_law_605 : decode cL_law 605 = .ok (.iload_n 3, 1) := by decide +kernel
theorem dL_law_606 : decode cL_law 606 = .ok (.iconst 1, 1) := by decide +kernel
theorem dL_law_607 : decode cL_law 607 = .ok (.iadd, 1) := by decide +kernel
theorem dL_law_608 : decode cL_law 608 = .ok (.iaload, 1) := by decide +kernel
theorem dL_law_609 : decode cL_law 609 = .ok (.invokevirtual 85, 3) := by decide +kernel
theorem dL_law_612 : decode cL_law 612 = .ok (.if_icmp .eq 342, 3) := by decide +kernel
theorem dL_law_615 : decode cL_law 615 = .ok (.iconst 0, 1) := by decide +kernel
theorem dL_law_616 : decode cL_law 616 = .ok (.ireturn, 1) := by decide +kernel
theorem dL_law_617 : decode cL_law 617 = .ok (.aload_n 1, 1) := by decide +kernel
theorem dL_law_618 : decode cL_law 618 = .ok (.invokevirtual 86, 3) := by decide +kernel
theorem dL_law_621 : decode cL_law 621 = .ok (.aload_n 2, 1) := by decide +kernel
theorem dL_law_622 : decode cL_law 622 = .ok (.invokevirtual 89, 3) := by decide +kernel
theorem dL_law_625 : decode cL_law 625 = .ok (.if_icmp .eq 329, 3) := by decide +kernel
theorem dL_law_628 : decode cL_law 628 = .ok (.iconst 0, 1) := by decide +kernel
theorem dL_law_629 : decode cL_law 629 = .ok (.ireturn, 1) := by decide +kernel
theorem dL_law_630 : decode cL_law 630 = .ok (.aload_n 1, 1) := by decide +kernel
theorem dL_law_631 : decode cL_law 631 = .ok (.invokevirtual 90, 3) := by decide +kernel
theorem dL_law_634 : decode cL_law 634 = .ok (.aload_n 2, 1) := by decide +kernel
theorem dL_law_635 : decode cL_law 635 = .ok (.invokevirtual 93, 3) := by decide +kernel
theorem dL_law_638 : decode cL_law 638 = .ok (.if_icmp .eq 316, 3) := by decide +kernel
theorem dL_law_641 : decode cL_law 641 = .ok (.iconst 0, 1) := by decide +kernel
theorem dL_law_642 : decode cL_law 642 = .ok (.ireturn, 1) := by decide +kernel
theorem dL_law_643 : decode cL_law 643 = .ok (.aload_n 1, 1) := by decide +kernel
theorem dL_law_644 : decode cL_law 644 = .ok (.aload_n 0, 1) := by decide +kernel
theorem dL_law_645 : decode cL_law 645 = .ok (.iload_n 3, 1) := by decide +kernel
theorem dL_law_646 : decode cL_law 646 = .ok (.iconst 1, 1) := by decide +kernel
theorem dL_law_647 : decode cL_law 647 = .ok (.iadd, 1) := by decide +kernel
theorem dL_law_648 : decode cL_law 648 = .ok (.iaload, 1) := by decide +kernel
theorem dL_law_649 : decode cL_law 649 = .ok (.aload_n 0, 1) := by decide +kernel
theorem dL_law_650 : decode cL_law 650 = .ok (.iload_n 3, 1) := by decide +kernel
theorem dL_law_651 : decode cL_law 651 = .ok (.iconst 2, 1) := by decide +kernel
theorem dL_law_652 : decode cL_law 652 = .ok (.iadd, 1) := by decide +kernel
theorem dL_law_653 : decode cL_law 653 = .ok (.iaload, 1) := by decide +kernel
theorem dL_law_654 : decode cL_law 654 = .ok (.aload_n 0, 1) := by decide +kernel
theorem dL_law_655 : decode cL_law 655 = .ok (.iload_n 3, 1) := by decide +kernel
theorem dL_law_656 : decode cL_law 656 = .ok (.iconst 3, 1) := by decide +kernel
theorem dL_law_657 : decode cL_law 657 = .ok (.iadd, 1) := by decide +kernel
theorem dL_law_658 : decode cL_law 658 = .ok (.iaload, 1) := by decide +kernel
theorem dL_law_659 : decode cL_law 659 = .ok (.invokevirtual 94, 3) := by decide +kernel
theorem dL_law_662 : decode cL_law 662 = .ok (.aload_n 2, 1) := by decide +kernel
theorem dL_law_663 : decode cL_law 663 = .ok (.aload_n 0, 1) := by decide +kernel
theorem dL_law_664 : decode cL_law 664 = .ok (.iload_n 3, 1) := by decide +kernel
theorem dL_law_665 : decode cL_law 665 = .ok (.iconst 1, 1) := by decide +kernel
theorem dL_law_666 : decode cL_law 666 = .ok (.iadd, 1) := by decide +kernel
theorem dL_law_667 : decode cL_law 667 = .ok (.iaload, 1) := by decide +kernel
theorem dL_law_668 : decode cL_law 668 = .ok (.aload_n 0, 1) := by decide +kernel
theorem dL_law_669 : decode cL_law 669 = .ok (.iload_n 3, 1) := by decide +kernel
theorem dL_law_670 : decode cL_law 670 = .ok (.iconst 2, 1) := by decide +kernel
theorem dL_law_671 : decode cL_law 671 = .ok (.iadd, 1) := by decide +kernel
theorem dL_law_672 : decode cL_law 672 = .ok (.iaload, 1) := by decide +kernel
theorem dL_law_673 : decode cL_law 673 = .ok (.aload_n 0, 1) := by decide +kernel
theorem dL_law_674 : decode cL_law 674 = .ok (.iload_n 3, 1) := by decide +kernel
theorem dL_law_675 : decode cL_law 675 = .ok (.iconst 3, 1) := by decide +kernel
theorem dL_law_676 : decode cL_law 676 = .ok (.iadd, 1) := by decide +kernel
theorem dL_law_677 : decode cL_law 677 = .ok (.iaload, 1) := by decide +kernel
theorem dL_law_678 : decode cL_law 678 = .ok (.invokevirtual 97, 3) := by decide +kernel
theorem dL_law_681 : decode cL_law 681 = .ok (.if_icmp .eq 273, 3) := by decide +kernel
theorem dL_law_684 : decode cL_law 684 = .ok (.iconst 0, 1) := by decide +kernel
theorem dL_law_685 : decode cL_law 685 = .ok (.ireturn, 1) := by decide +kernel
theorem dL_law_686 : decode cL_law 686 = .ok (.aload_n 1, 1) := by decide +kernel
theorem dL_law_687 : decode cL_law 687 = .ok (.aload_n 0, 1) := by decide +kernel
theorem dL_law_688 : decode cL_law 688 = .ok (.iload_n 3, 1) := by decide +kernel
theorem dL_law_689 : decode cL_law 689 = .ok (.iconst 1, 1) := by decide +kernel
theorem dL_law_690 : decode cL_law 690 = .ok (.iadd, 1) := by decide +kernel
theorem dL_law_691 : decode cL_law 691 = .ok (.iaload, 1) := by decide +kernel
theorem dL_law_692 : decode cL_law 692 = .ok (.aload_n 0, 1) := by decide +kernel
theorem dL_law_693 : decode cL_law 693 = .ok (.iload_n 3, 1) := by decide +kernel
theorem dL_law_694 : decode cL_law 694 = .ok (.iconst 2, 1) := by decide +kernel
theorem dL_law_695 : decode cL_law 695 = .ok (.iadd, 1) := by decide +kernel
theorem dL_law_696 : decode cL_law 696 = .ok (.iaload, 1) := by decide +kernel
theorem dL_law_697 : decode cL_law 697 = .ok (.aload_n 0, 1) := by decide +kernel
theorem dL_law_698 : decode cL_law 698 = .ok (.iload_n 3, 1) := by decide +kernel
theorem dL_law_699 : decode cL_law 699 = .ok (.iconst 3, 1) := by decide +kernel
theorem dL_law_700 : decode cL_law 700 = .ok (.iadd, 1) := by decide +kernel
theorem dL_law_701 : decode cL_law 701 = .ok (.iaload, 1) := by decide +kernel
theorem dL_law_702 : decode cL_law 702 = .ok (.invokevirtual 98, 3) := by decide +kernel
theorem dL_law_705 : decode cL_law 705 = .ok (.aload_n 2, 1) := by decide +kernel
theorem dL_law_706 : decode cL_law 706 = .ok (.aload_n 0, 1) := by decide +kernel
theorem dL_law_707 : decode cL_law 707 = .ok (.iload_n 3, 1) := by decide +kernel
theorem dL_law_708 : decode cL_law 708 = .ok (.iconst 1, 1) := by decide +kernel
theorem dL_law_709 : decode cL_law 709 = .ok (.iadd, 1) := by decide +kernel
theorem dL_law_710 : decode cL_law 710 = .ok (.iaload, 1) := by decide +kernel
theorem dL_law_711 : decode cL_law 711 = .ok (.aload_n 0, 1) := by decide +kernel
theorem dL_law_712 : decode cL_law 712 = .ok (.iload_n 3, 1) := by decide +kernel
theorem dL_law_713 : decode cL_law 713 = .ok (.iconst 2, 1) := by decide +kernel
theorem dL_law_714 : decode cL_law 714 = .ok (.iadd, 1) := by decide +kernel
theorem dL_law_715 : decode cL_law 715 = .ok (.iaload, 1) := by decide +kernel
theorem dL_law_716 : decode cL_law 716 = .ok (.aload_n 0, 1) := by decide +kernel
theorem dL_law_717 : decode cL_law 717 = .ok (.iload_n 3, 1) := by decide +kernel
theorem dL_law_718 : decode cL_law 718 = .ok (.iconst 3, 1) := by decide +kernel
theorem dL_law_719 : decode cL_law 719 = .ok (.iadd, 1) := by decide +kernel
theorem dL_law_720 : decode cL_law 720 = .ok (.iaload, 1) := by decide +kernel
theorem dL_law_721 : decode cL_law 721 = .ok (.invokevirtual 101, 3) := by decide +kernel
theorem dL_law_724 : decode cL_law 724 = .ok (.if_icmp .eq 230, 3) := by decide +kernel
theorem dL_law_727 : decode cL_law 727 = .ok (.iconst 0, 1) := by decide +kernel
theorem dL_law_728 : decode cL_law 728 = .ok (.ireturn, 1) := by decide +kernel
theorem dL_law_729 : decode cL_law 729 = .ok (.aload_n 1, 1) := by decide +kernel
theorem dL_law_730 : decode cL_law 730 = .ok (.aload_n 0, 1) := by decide +kernel
theorem dL_law_731 : decode cL_law 731 = .ok (.iload_n 3, 1) := by decide +kernel
theorem dL_law_732 : decode cL_law 732 = .ok (.iconst 1, 1) := by decide +kernel
theorem dL_law_733 : decode cL_law 733 = .ok (.iadd, 1) := by decide +kernel
theorem dL_law_734 : decode cL_law 734 = .ok (.iaload, 1) := by decide +kernel
theorem dL_law_735 : decode cL_law 735 = .ok (.aload_n 0, 1) := by decide +kernel
theorem dL_law_736 : decode cL_law 736 = .ok (.iload_n 3, 1) := by decide +kernel
theorem dL_law_737 : decode cL_law 737 = .ok (.iconst 2, 1) := by decide +kernel
theorem dL_law_738 : decode cL_law 738 = .ok (.iadd, 1) := by decide +kernel
theorem dL_law_739 : decode cL_law 739 = .ok (.iaload, 1) := by decide +kernel
theorem dL_law_740 : decode cL_law 740 = .ok (.invokevirtual 102, 3) := by decide +kernel
theorem dL_law_743 : decode cL_law 743 = .ok (.aload_n 2, 1) := by decide +kernel
theorem dL_law_744 : decode cL_law 744 = .ok (.aload_n 0, 1) := by decide +kernel
theorem dL_law_745 : decode cL_law 745 = .ok (.iload_n 3, 1) := by decide +kernel
theorem dL_law_746 : decode cL_law 746 = .ok (.iconst 1, 1) := by decide +kernel
theorem dL_law_747 : decode cL_law 747 = .ok (.iadd, 1) := by decide +kernel
theorem dL_law_748 : decode cL_law 748 = .ok (.iaload, 1) := by decide +kernel
theorem dL_law_749 : decode cL_law 749 = .ok (.aload_n 0, 1) := by decide +kernel
theorem dL_law_750 : decode cL_law 750 = .ok (.iload_n 3, 1) := by decide +kernel
theorem dL_law_751 : decode cL_law 751 = .ok (.iconst 2, 1) := by decide +kernel
theorem dL_law_752 : decode cL_law 752 = .ok (.iadd, 1) := by decide +kernel
theorem dL_law_753 : decode cL_law 753 = .ok (.iaload, 1) := by decide +kernel
theorem dL_law_754 : decode cL_law 754 = .ok (.invokevirtual 106, 3) := by decide +kernel
theorem dL_law_757 : decode cL_law 757 = .ok (.lcmp, 1) := by decide +kernel
theorem dL_law_758 : decode cL_law 758 = .ok (.ifCond .eq 196, 3) := by decide +kernel
theorem dL_law_761 : decode cL_law 761 = .ok (.iconst 0, 1) := by decide +kernel
theorem dL_law_762 : decode cL_law 762 = .ok (.ireturn, 1) := by decide +kernel
theorem dL_law_763 : decode cL_law 763 = .ok (.aload_n 1, 1) := by decide +kernel
theorem dL_law_764 : decode cL_law 764 = .ok (.aload_n 0, 1) := by decide +kernel
theorem dL_law_765 : decode cL_law 765 = .ok (.iload_n 3, 1) := by decide +kernel
theorem dL_law_766 : decode cL_law 766 = .ok (.iconst 1, 1) := by decide +kernel
theorem dL_law_767 : decode cL_law 767 = .ok (.iadd, 1) := by decide +kernel
theorem dL_law_768 : decode cL_law 768 = .ok (.iaload, 1) := by decide +kernel
theorem dL_law_769 : decode cL_law 769 = .ok (.aload_n 0, 1) := by decide +kernel
theorem dL_law_770 : decode cL_law 770 = .ok (.iload_n 3, 1) := by decide +kernel
theorem dL_law_771 : decode cL_law 771 = .ok (.iconst 2, 1) := by decide +kernel
theorem dL_law_772 : decode cL_law 772 = .ok (.iadd, 1) := by decide +kernel
theorem dL_law_773 : decode cL_law 773 = .ok (.iaload, 1) := by decide +kernel
theorem dL_law_774 : decode cL_law 774 = .ok (.i2l, 1) := by decide +kernel
theorem dL_law_775 : decode cL_law 775 = .ok (.bipush 32, 2) := by decide +kernel
theorem dL_law_777 : decode cL_law 777 = .ok (.lshl, 1) := by decide +kernel
theorem dL_law_778 : decode cL_law 778 = .ok (.aload_n 0, 1) := by decide +kernel
theorem dL_law_779 : decode cL_law 779 = .ok (.iload_n 3, 1) := by decide +kernel
theorem dL_law_780 : decode cL_law 780 = .ok (.iconst 3, 1) := by decide +kernel
theorem dL_law_781 : decode cL_law 781 = .ok (.iadd, 1) := by decide +kernel
theorem dL_law_782 : decode cL_law 782 = .ok (.iaload, 1) := by decide +kernel
theorem dL_law_783 : decode cL_law 783 = .ok (.i2l, 1) := by decide +kernel
theorem dL_law_784 : decode cL_law 784 = .ok (.ldc2_w 107, 3) := by decide +kernel
theorem dL_law_787 : decode cL_law 787 = .ok (.land, 1) := by decide +kernel
theorem dL_law_788 : decode cL_law 788 = .ok (.lor, 1) := by decide +kernel
theorem dL_law_789 : decode cL_law 789 = .ok (.invokevirtual 109, 3) := by decide +kernel
theorem dL_law_792 : decode cL_law 792 = .ok (.aload_n 2, 1) := by decide +kernel
theorem dL_law_793 : decode cL_law 793 = .ok (.aload_n 0, 1) := by decide +kernel
theorem dL_law_794 : decode cL_law 794 = .ok (.iload_n 3, 1) := by decide +kernel
theorem dL_law_795 : decode cL_law 795 = .ok (.iconst 1, 1) := by decide +kernel
theorem dL_law_796 : decode cL_law 796 = .ok (.iadd, 1) := by decide +kernel
theorem dL_law_797 : decode cL_law 797 = .ok (.iaload, 1) := by decide +kernel
theorem dL_law_798 : decode cL_law 798 = .ok (.aload_n 0, 1) := by decide +kernel
theorem dL_law_799 : decode cL_law 799 = .ok (.iload_n 3, 1) := by decide +kernel
theorem dL_law_800 : decode cL_law 800 = .ok (.iconst 2, 1) := by decide +kernel
theorem dL_law_801 : decode cL_law 801 = .ok (.iadd, 1) := by decide +kernel
theorem dL_law_802 : decode cL_law 802 = .ok (.iaload, 1) := by decide +kernel
theorem dL_law_803 : decode cL_law 803 = .ok (.i2l, 1) := by decide +kernel
theorem dL_law_804 : decode cL_law 804 = .ok (.bipush 32, 2) := by decide +kernel
theorem dL_law_806 : decode cL_law 806 = .ok (.lshl, 1) := by decide +kernel
theorem dL_law_807 : decode cL_law 807 = .ok (.aload_n 0, 1) := by decide +kernel
theorem dL_law_808 : decode cL_law 808 = .ok (.iload_n 3, 1) := by decide +kernel
theorem dL_law_809 : decode cL_law 809 = .ok (.iconst 3, 1) := by decide +kernel
theorem dL_law_810 : decode cL_law 810 = .ok (.iadd, 1) := by decide +kernel
theorem dL_law_811 : decode cL_law 811 = .ok (.iaload, 1) := by decide +kernel
theorem dL_law_812 : decode cL_law 812 = .ok (.i2l, 1) := by decide +kernel
theorem dL_law_813 : decode cL_law 813 = .ok (.ldc2_w 107, 3) := by decide +kernel
theorem dL_law_816 : decode cL_law 816 = .ok (.land, 1) := by decide +kernel
theorem dL_law_817 : decode cL_law 817 = .ok (.lor, 1) := by decide +kernel
theorem dL_law_818 : decode cL_law 818 = .ok (.invokevirtual 113, 3) := by decide +kernel
theorem dL_law_821 : decode cL_law 821 = .ok (.lcmp, 1) := by decide +kernel
theorem dL_law_822 : decode cL_law 822 = .ok (.ifCond .eq 132, 3) := by decide +kernel
theorem dL_law_825 : decode cL_law 825 = .ok (.iconst 0, 1) := by decide +kernel
theorem dL_law_826 : decode cL_law 826 = .ok (.ireturn, 1) := by decide +kernel
theorem dL_law_827 : decode cL_law 827 = .ok (.aload_n 1, 1) := by decide +kernel
theorem dL_law_828 : decode cL_law 828 = .ok (.aload_n 0, 1) := by decide +kernel
theorem dL_law_829 : decode cL_law 829 = .ok (.iload_n 3, 1) := by decide +kernel
theorem dL_law_830 : decode cL_law 830 = .ok (.iconst 1, 1) := by decide +kernel
theorem dL_law_831 : decode cL_law 831 = .ok (.iadd, 1) := by decide +kernel
theorem dL_law_832 : decode cL_law 832 = .ok (.iaload, 1) := by decide +kernel
theorem dL_law_833 : decode cL_law 833 = .ok (.invokevirtual 114, 3) := by decide +kernel
theorem dL_law_836 : decode cL_law 836 = .ok (.aload_n 2, 1) := by decide +kernel
theorem dL_law_837 : decode cL_law 837 = .ok (.aload_n 0, 1) := by decide +kernel
theorem dL_law_838 : decode cL_law 838 = .ok (.iload_n 3, 1) := by decide +kernel
theorem dL_law_839 : decode cL_law 839 = .ok (.iconst 1, 1) := by decide +kernel
theorem dL_law_840 : decode cL_law 840 = .ok (.iadd, 1) := by decide +kernel
theorem dL_law_841 : decode cL_law 841 = .ok (.iaload, 1) := by decide +kernel
theorem dL_law_842 : decode cL_law 842 = .ok (.invokevirtual 118, 3) := by decide +kernel
theorem dL_law_845 : decode cL_law 845 = .ok (.lcmp, 1) := by decide +kernel
theorem dL_law_846 : decode cL_law 846 = .ok (.ifCond .eq 108, 3) := by decide +kernel
theorem dL_law_849 : decode cL_law 849 = .ok (.iconst 0, 1) := by decide +kernel
theorem dL_law_850 : decode cL_law 850 = .ok (.ireturn, 1) := by decide +kernel
theorem dL_law_851 : decode cL_law 851 = .ok (.aload_n 1, 1) := by decide +kernel
theorem dL_law_852 : decode cL_law 852 = .ok (.aload_n 0, 1) := by decide +kernel
theorem dL_law_853 : decode cL_law 853 = .ok (.iload_n 3, 1) := by decide +kernel
theorem dL_law_854 : decode cL_law 854 = .ok (.iconst 1, 1) := by decide +kernel
theorem dL_law_855 : decode cL_law 855 = .ok (.iadd, 1) := by decide +kernel
theorem dL_law_856 : decode cL_law 856 = .ok (.iaload, 1) := by decide +kernel
theorem dL_law_857 : decode cL_law 857 = .ok (.aload_n 0, 1) := by decide +kernel
theorem dL_law_858 : decode cL_law 858 = .ok (.iload_n 3, 1) := by decide +kernel
theorem dL_law_859 : decode cL_law 859 = .ok (.iconst 2, 1) := by decide +kernel
theorem dL_law_860 : decode cL_law 860 = .ok (.iadd, 1) := by decide +kernel
theorem dL_law_861 : decode cL_law 861 = .ok (.iaload, 1) := by decide +kernel
theorem dL_law_862 : decode cL_law 862 = .ok (.invokevirtual 119, 3) := by decide +kernel
theorem dL_law_865 : decode cL_law 865 = .ok (.aload_n 2, 1) := by decide +kernel
theorem dL_law_866 : decode cL_law 866 = .ok (.aload_n 0, 1) := by decide +kernel
theorem dL_law_867 : decode cL_law 867 = .ok (.iload_n 3, 1) := by decide +kernel
theorem dL_law_868 : decode cL_law 868 = .ok (.iconst 1, 1) := by decide +kernel
theorem dL_law_869 : decode cL_law 869 = .ok (.iadd, 1) := by decide +kernel
theorem dL_law_870 : decode cL_law 870 = .ok (.iaload, 1) := by decide +kernel
theorem dL_law_871 : decode cL_law 871 = .ok (.aload_n 0, 1) := by decide +kernel
theorem dL_law_872 : decode cL_law 872 = .ok (.iload_n 3, 1) := by decide +kernel
theorem dL_law_873 : decode cL_law 873 = .ok (.iconst 2, 1) := by decide +kernel
theorem dL_law_874 : decode cL_law 874 = .ok (.iadd, 1) := by decide +kernel
theorem dL_law_875 : decode cL_law 875 = .ok (.iaload, 1) := by decide +kernel
theorem dL_law_876 : decode cL_law 876 = .ok (.invokevirtual 122, 3) := by decide +kernel
theorem dL_law_879 : decode cL_law 879 = .ok (.if_icmp .eq 75, 3) := by decide +kernel
theorem dL_law_882 : decode cL_law 882 = .ok (.iconst 0, 1) := by decide +kernel
theorem dL_law_883 : decode cL_law 883 = .ok (.ireturn, 1) := by decide +kernel
theorem dL_law_884 : decode cL_law 884 = .ok (.aload_n 1, 1) := by decide +kernel
theorem dL_law_885 : decode cL_law 885 = .ok (.aload_n 0, 1) := by decide +kernel
theorem dL_law_886 : decode cL_law 886 = .ok (.iload_n 3, 1) := by decide +kernel
theorem dL_law_887 : decode cL_law 887 = .ok (.iconst 1, 1) := by decide +kernel
theorem dL_law_888 : decode cL_law 888 = .ok (.iadd, 1) := by decide +kernel
theorem dL_law_889 : decode cL_law 889 = .ok (.iaload, 1) := by decide +kernel
theorem dL_law_890 : decode cL_law 890 = .ok (.aload_n 0, 1) := by decide +kernel
theorem dL_law_891 : decode cL_law 891 = .ok (.iload_n 3, 1) := by decide +kernel
theorem dL_law_892 : decode cL_law 892 = .ok (.iconst 2, 1) := by decide +kernel
theorem dL_law_893 : decode cL_law 893 = .ok (.iadd, 1) := by decide +kernel
theorem dL_law_894 : decode cL_law 894 = .ok (.iaload, 1) := by decide +kernel
theorem dL_law_895 : decode cL_law 895 = .ok (.invokevirtual 123, 3) := by decide +kernel
theorem dL_law_898 : decode cL_law 898 = .ok (.aload_n 2, 1) := by decide +kernel
theorem dL_law_899 : decode cL_law 899 = .ok (.aload_n 0, 1) := by decide +kernel
theorem dL_law_900 : decode cL_law 900 = .ok (.iload_n 3, 1) := by decide +kernel
theorem dL_law_901 : decode cL_law 901 = .ok (.iconst 1, 1) := by decide +kernel
theorem dL_law_902 : decode cL_law 902 = .ok (.iadd, 1) := by decide +kernel
theorem dL_law_903 : decode cL_law 903 = .ok (.iaload, 1) := by decide +kernel
theorem dL_law_904 : decode cL_law 904 = .ok (.aload_n 0, 1) := by decide +kernel
theorem dL_law_905 : decode cL_law 905 = .ok (.iload_n 3, 1) := by decide +kernel
theorem dL_law_906 : decode cL_law 906 = .ok (.iconst 2, 1) := by decide +kernel
theorem dL_law_907 : decode cL_law 907 = .ok (.iadd, 1) := by decide +kernel
theorem dL_law_908 : decode cL_law 908 = .ok (.iaload, 1) := by decide +kernel
theorem dL_law_909 : decode cL_law 909 = .ok (.invokevirtual 126, 3) := by decide +kernel
theorem dL_law_912 : decode cL_law 912 = .ok (.if_icmp .eq 42, 3) := by decide +kernel
theorem dL_law_915 : decode cL_law 915 = .ok (.iconst 0, 1) := by decide +kernel
theorem dL_law_916 : decode cL_law 916 = .ok (.ireturn, 1) := by decide +kernel
theorem dL_law_917 : decode cL_law 917 = .ok (.aload_n 1, 1) := by decide +kernel
theorem dL_law_918 : decode cL_law 918 = .ok (.aload_n 0, 1) := by decide +kernel
theorem dL_law_919 : decode cL_law 919 = .ok (.iload_n 3, 1) := by decide +kernel
theorem dL_law_920 : decode cL_law 920 = .ok (.iconst 1, 1) := by decide +kernel
theorem dL_law_921 : decode cL_law 921 = .ok (.iadd, 1) := by decide +kernel
theorem dL_law_922 : decode cL_law 922 = .ok (.iaload, 1) := by decide +kernel
theorem dL_law_923 : decode cL_law 923 = .ok (.invokevirtual 127, 3) := by decide +kernel
theorem dL_law_926 : decode cL_law 926 = .ok (.aload_n 2, 1) := by decide +kernel
theorem dL_law_927 : decode cL_law 927 = .ok (.aload_n 0, 1) := by decide +kernel
theorem dL_law_928 : decode cL_law 928 = .ok (.iload_n 3, 1) := by decide +kernel
theorem dL_law_929 : decode cL_law 929 = .ok (.iconst 1, 1) := by decide +kernel
theorem dL_law_930 : decode cL_law 930 = .ok (.iadd, 1) := by decide +kernel
theorem dL_law_931 : decode cL_law 931 = .ok (.iaload, 1) := by decide +kernel
theorem dL_law_932 : decode cL_law 932 = .ok (.invokevirtual 130, 3) := by decide +kernel
theorem dL_law_935 : decode cL_law 935 = .ok (.if_icmp .eq 19, 3) := by decide +kernel
theorem dL_law_938 : decode cL_law 938 = .ok (.iconst 0, 1) := by decide +kernel
theorem dL_law_939 : decode cL_law 939 = .ok (.ireturn, 1) := by decide +kernel
theorem dL_law_940 : decode cL_law 940 = .ok (.aload_n 1, 1) := by decide +kernel
theorem dL_law_941 : decode cL_law 941 = .ok (.invokevirtual 131, 3) := by decide +kernel
theorem dL_law_944 : decode cL_law 944 = .ok (.aload_n 2, 1) := by decide +kernel
theorem dL_law_945 : decode cL_law 945 = .ok (.invokevirtual 135, 3) := by decide +kernel
theorem dL_law_948 : decode cL_law 948 = .ok (.lcmp, 1) := by decide +kernel
theorem dL_law_949 : decode cL_law 949 = .ok (.ifCond .eq 5, 3) := by decide +kernel
theorem dL_law_952 : decode cL_law 952 = .ok (.iconst 0, 1) := by decide +kernel
theorem dL_law_953 : decode cL_law 953 = .ok (.ireturn, 1) := by decide +kernel
theorem dL_law_954 : decode cL_law 954 = .ok (.iinc 3 4, 3) := by decide +kernel
theorem dL_law_957 : decode cL_law 957 = .ok (.goto (-939), 3) := by decide +kernel
theorem dL_law_960 : decode cL_law 960 = .ok (.iconst 1, 1) := by decide +kernel
theorem dL_law_961 : decode cL_law 961 = .ok (.ireturn, 1) := by decide +kernel
end
section
/-! the words of the tables, each by its place in lw_tbl -/
def hx_ws : List Cond := lw_tbl.filter goodWord
theorem hx_wsI : ∀ w ∈ hx_ws, w ∈ lw_tbl := fun _ h => (List.mem_filter.mp h).1
theorem tb_0 : Cond.selects "DearVotes$Search" ⟨"DearVotes$Search", "listChoices", "(III)V"⟩ ⟨"DearVotes$Search", "listChoices", "(III)V"⟩ ∈ hx_ws := List.mem_filter.mpr ⟨List.mem_of_getElem? (i := 0) (by decide +kernel), rfl⟩
theorem tb_1 : Cond.selects "DearVotes$Search" ⟨"DearVotes$Search", "addChoice", "(III)V"⟩ ⟨"DearVotes$Search", "addChoice", "(III)V"⟩ ∈ hx_ws := List.mem_filter.mpr ⟨List.mem_of_getElem? (i := 1) (by decide +kernel), rfl⟩
theorem tb_2 : Cond.selects "DearVotes$Search" ⟨"DearVotes$Search", "keepIfBetter", "(II)V"⟩ ⟨"DearVotes$Search", "keepIfBetter", "(II)V"⟩ ∈ hx_ws := List.mem_filter.mpr ⟨List.mem_of_getElem? (i := 2) (by decide +kernel), rfl⟩
theorem tb_3 : Cond.selects "DearVotes$Search" ⟨"DearVotes$Search", "triedIsLess", "()Z"⟩ ⟨"DearVotes$Search", "triedIsLess", "()Z"⟩ ∈ hx_ws := List.mem_filter.mpr ⟨List.mem_of_getElem? (i := 3) (by decide +kernel), rfl⟩
theorem tb_4 : Cond.selects "DearVotes$Rounds" ⟨"DearVotes$Rounds", "noteVoices", "(I)V"⟩ ⟨"DearVotes$Rounds", "noteVoices", "(I)V"⟩ ∈ hx_ws := List.mem_filter.mpr ⟨List.mem_of_getElem? (i := 4) (by decide +kernel), rfl⟩
theorem tb_5 : Cond.selects "DearVotes$Rounds" ⟨"DearVotes$Rounds", "doRound", "()I"⟩ ⟨"DearVotes$Rounds", "doRound", "()I"⟩ ∈ hx_ws := List.mem_filter.mpr ⟨List.mem_of_getElem? (i := 5) (by decide +kernel), rfl⟩
theorem tb_6 : Cond.selects "DearVotes$Rounds" ⟨"DearVotes$Rounds", "judge", "(II)V"⟩ ⟨"DearVotes$Rounds", "judge", "(II)V"⟩ ∈ hx_ws := List.mem_filter.mpr ⟨List.mem_of_getElem? (i := 6) (by decide +kernel), rfl⟩
theorem tb_7 : Cond.selects "DearVotes$Rounds" ⟨"DearVotes$Rounds", "isSameTrail", "(II)Z"⟩ ⟨"DearVotes$Rounds", "isSameTrail", "(II)Z"⟩ ∈ hx_ws := List.mem_filter.mpr ⟨List.mem_of_getElem? (i := 7) (by decide +kernel), rfl⟩
theorem tb_8 : Cond.selects "DearVotes$Fund" ⟨"DearVotes$Fund", "fineProduct", "(III)J"⟩ ⟨"DearVotes$Fund", "fineProduct", "(III)J"⟩ ∈ hx_ws := List.mem_filter.mpr ⟨List.mem_of_getElem? (i := 8) (by decide +kernel), rfl⟩
theorem tb_9 : Cond.selects "DearVotesModel" ⟨"DearVotesModel", "isPerson", "(I)Z"⟩ ⟨"DearVotesModel", "isPerson", "(I)Z"⟩ ∈ hx_ws := List.mem_filter.mpr ⟨List.mem_of_getElem? (i := 9) (by decide +kernel), rfl⟩
theorem tb_10 : Cond.selects "DearVotesModel" ⟨"DearVotesModel", "isQuestion", "(I)Z"⟩ ⟨"DearVotesModel", "isQuestion", "(I)Z"⟩ ∈ hx_ws := List.mem_filter.mpr ⟨List.mem_of_getElem? (i := 10) (by decide +kernel), rfl⟩
theorem tb_11 : Cond.selects "DearVotesModel" ⟨"DearVotesModel", "costOf", "(I)I"⟩ ⟨"DearVotesModel", "costOf", "(I)I"⟩ ∈ hx_ws := List.mem_filter.mpr ⟨List.mem_of_getElem? (i := 11) (by decide +kernel), rfl⟩
theorem tb_12 : Cond.selects "DearVotesModel" ⟨"DearVotesModel", "others", "(II)I"⟩ ⟨"DearVotesModel", "others", "(II)I"⟩ ∈ hx_ws := List.mem_filter.mpr ⟨List.mem_of_getElem? (i := 12) (by decide +kernel), rfl⟩
theorem tb_13 : Cond.selects "DearVotesModel" ⟨"DearVotesModel", "resultOf", "(II)I"⟩ ⟨"DearVotesModel", "resultOf", "(II)I"⟩ ∈ hx_ws := List.mem_filter.mpr ⟨List.mem_of_getElem? (i := 13) (by decide +kernel), rfl⟩
theorem tb_14 : Cond.selects "DearVotesModel" ⟨"DearVotesModel", "gainOf", "(I)I"⟩ ⟨"DearVotesModel", "gainOf", "(I)I"⟩ ∈ hx_ws := List.mem_filter.mpr ⟨List.mem_of_getElem? (i := 14) (by decide +kernel), rfl⟩
theorem tb_15 : Cond.selects "DearVotesModel" ⟨"DearVotesModel", "find", "(I)V"⟩ ⟨"DearVotesModel", "find", "(I)V"⟩ ∈ hx_ws := List.mem_filter.mpr ⟨List.mem_of_getElem? (i := 15) (by decide +kernel), rfl⟩
theorem tb_16 : Cond.selects "DearVotesModel" ⟨"DearVotesModel", "end", "(II)V"⟩ ⟨"DearVotesModel", "end", "(II)V"⟩ ∈ hx_ws := List.mem_filter.mpr ⟨List.mem_of_getElem? (i := 16) (by decide +kernel), rfl⟩
theorem tb_17 : Cond.selects "DearVotesModel" ⟨"DearVotesModel", "isBetter", "(II)Z"⟩ ⟨"DearVotesModel", "isBetter", "(II)Z"⟩ ∈ hx_ws := List.mem_filter.mpr ⟨List.mem_of_getElem? (i := 17) (by decide +kernel), rfl⟩
theorem tb_18 : Cond.selects "DearVotesModel" ⟨"DearVotesModel", "adopt", "(I)V"⟩ ⟨"DearVotesModel", "adopt", "(I)V"⟩ ∈ hx_ws := List.mem_filter.mpr ⟨List.mem_of_getElem? (i := 18) (by decide +kernel), rfl⟩
theorem tb_19 : Cond.selects "DearVotesModel" ⟨"DearVotesModel", "keep", "(I)V"⟩ ⟨"DearVotesModel", "keep", "(I)V"⟩ ∈ hx_ws := List.mem_filter.mpr ⟨List.mem_of_getElem? (i := 19) (by decide +kernel), rfl⟩
theorem tb_20 : Cond.selects "DearVotesModel" ⟨"DearVotesModel", "isAsBehind", "(I)Z"⟩ ⟨"DearVotesModel", "isAsBehind", "(I)Z"⟩ ∈ hx_ws := List.mem_filter.mpr ⟨List.mem_of_getElem? (i := 20) (by decide +kernel), rfl⟩
theorem tb_21 : Cond.selects "DearVotesModel" ⟨"DearVotesModel", "isProject", "(I)Z"⟩ ⟨"DearVotesModel", "isProject", "(I)Z"⟩ ∈ hx_ws := List.mem_filter.mpr ⟨List.mem_of_getElem? (i := 21) (by decide +kernel), rfl⟩
theorem tb_22 : Cond.selects "DearVotesModel" ⟨"DearVotesModel", "matchedOf", "(IIZ)J"⟩ ⟨"DearVotesModel", "matchedOf", "(IIZ)J"⟩ ∈ hx_ws := List.mem_filter.mpr ⟨List.mem_of_getElem? (i := 22) (by decide +kernel), rfl⟩
theorem tb_23 : Cond.selects "DearVotesModel" ⟨"DearVotesModel", "likenessOf", "(II)I"⟩ ⟨"DearVotesModel", "likenessOf", "(II)I"⟩ ∈ hx_ws := List.mem_filter.mpr ⟨List.mem_of_getElem? (i := 23) (by decide +kernel), rfl⟩
theorem tb_24 : Cond.selects "DearVotesModel" ⟨"DearVotesModel", "mix", "(J)V"⟩ ⟨"DearVotesModel", "mix", "(J)V"⟩ ∈ hx_ws := List.mem_filter.mpr ⟨List.mem_of_getElem? (i := 24) (by decide +kernel), rfl⟩
theorem tb_25 : Cond.initialized "DearVotesLaw" ∈ hx_ws := List.mem_filter.mpr ⟨List.mem_of_getElem? (i := 25) (by decide +kernel), rfl⟩
theorem tb_26 : Cond.initialized "DearVotes" ∈ hx_ws := List.mem_filter.mpr ⟨List.mem_of_getElem? (i := 26) (by decide +kernel), rfl⟩
theorem tb_27 : Cond.initialized "DearVotes$House" ∈ hx_ws := List.mem_filter.mpr ⟨List.mem_of_getElem? (i := 27) (by decide +kernel), rfl⟩
theorem tb_28 : Cond.initialized "DearVotes$Search" ∈ hx_ws := List.mem_filter.mpr ⟨List.mem_of_getElem? (i := 28) (by decide +kernel), rfl⟩
theorem tb_29 : Cond.initialized "DearVotes$Rounds" ∈ hx_ws := List.mem_filter.mpr ⟨List.mem_of_getElem? (i := 29) (by decide +kernel), rfl⟩
theorem tb_30 : Cond.initialized "DearVotes$Fund" ∈ hx_ws := List.mem_filter.mpr ⟨List.mem_of_getElem? (i := 30) (by decide +kernel), rfl⟩
theorem tb_31 : Cond.initialized "DearVotesModel" ∈ hx_ws := List.mem_filter.mpr ⟨List.mem_of_getElem? (i := 31) (by decide +kernel), rfl⟩
theorem tb_32 : Cond.initialized "java/lang/System" ∈ hx_ws := List.mem_filter.mpr ⟨List.mem_of_getElem? (i := 32) (by decide +kernel), rfl⟩
theorem tb_33 : Cond.classLink "DearVotesLaw" 7 "DearVotes" ∈ hx_ws := List.mem_filter.mpr ⟨List.mem_of_getElem? (i := 33) (by decide +kernel), rfl⟩
theorem tb_34 : Cond.instantiable "DearVotes" 4 ∈ hx_ws := List.mem_filter.mpr ⟨List.mem_of_getElem? (i := 34) (by decide +kernel), rfl⟩
theorem tb_35 : Cond.methodLink "DearVotesLaw" 9 ⟨"DearVotes", "<init>", "()V"⟩ ∈ hx_ws := List.mem_filter.mpr ⟨List.mem_of_getElem? (i := 35) (by decide +kernel), rfl⟩
theorem tb_36 : Cond.instanceMethod ⟨"DearVotes", "<init>", "()V"⟩ ∈ hx_ws := List.mem_filter.mpr ⟨List.mem_of_getElem? (i := 36) (by decide +kernel), rfl⟩
theorem tb_37 : Cond.code ⟨"DearVotes", "<init>", "()V"⟩ prog_1_method_1_code 1 (Option.none : Option Jvm.ClassFile.FieldType) ∈ hx_ws := List.mem_filter.mpr ⟨List.mem_of_getElem? (i := 37) (by decide +kernel), rfl⟩
theorem tb_38 : Cond.methodLink "DearVotes" 1 ⟨"java/lang/Object", "<init>", "()V"⟩ ∈ hx_ws := List.mem_filter.mpr ⟨List.mem_of_getElem? (i := 38) (by decide +kernel), rfl⟩
theorem tb_39 : Cond.instanceMethod ⟨"java/lang/Object", "<init>", "()V"⟩ ∈ hx_ws := List.mem_filter.mpr ⟨List.mem_of_getElem? (i := 39) (by decide +kernel), rfl⟩
theorem tb_40 : Cond.code ⟨"java/lang/Object", "<init>", "()V"⟩ object_method_1_code 1 (Option.none : Option Jvm.ClassFile.FieldType) ∈ hx_ws := List.mem_filter.mpr ⟨List.mem_of_getElem? (i := 40) (by decide +kernel), rfl⟩
theorem tb_41 : Cond.classLink "DearVotes" 7 "DearVotes$House" ∈ hx_ws := List.mem_filter.mpr ⟨List.mem_of_getElem? (i := 41) (by decide +kernel), rfl⟩
theorem tb_42 : Cond.instantiable "DearVotes$House" 7 ∈ hx_ws := List.mem_filter.mpr ⟨List.mem_of_getElem? (i := 42) (by decide +kernel), rfl⟩
theorem tb_43 : Cond.methodLinkNest "DearVotes" 9 ⟨"DearVotes$House", "<init>", "()V"⟩ "DearVotes" ∈ lw_tbl := List.mem_of_getElem? (i := 43) (by decide +kernel)
theorem tb_44 : Cond.instanceMethod ⟨"DearVotes$House", "<init>", "()V"⟩ ∈ hx_ws := List.mem_filter.mpr ⟨List.mem_of_getElem? (i := 44) (by decide +kernel), rfl⟩
theorem tb_45 : Cond.code ⟨"DearVotes$House", "<init>", "()V"⟩ prog_3_method_1_code 1 (Option.none : Option Jvm.ClassFile.FieldType) ∈ hx_ws := List.mem_filter.mpr ⟨List.mem_of_getElem? (i := 45) (by decide +kernel), rfl⟩
theorem tb_46 : Cond.methodLink "DearVotes$House" 3 ⟨"java/lang/Object", "<init>", "()V"⟩ ∈ hx_ws := List.mem_filter.mpr ⟨List.mem_of_getElem? (i := 46) (by decide +kernel), rfl⟩
theorem tb_47 : Cond.classLink "DearVotes$House" 19 "[[I" ∈ hx_ws := List.mem_filter.mpr ⟨List.mem_of_getElem? (i := 47) (by decide +kernel), rfl⟩
theorem tb_48 : Cond.arrayOver (Jvm.ClassFile.FieldType.array Jvm.ClassFile.FieldType.int) ∈ lw_tbl := List.mem_of_getElem? (i := 48) (by decide +kernel)
theorem tb_49 : Cond.fieldLink "DearVotes$House" 27 "DearVotes$House" "people" "I" ∈ hx_ws := List.mem_filter.mpr ⟨List.mem_of_getElem? (i := 49) (by decide +kernel), rfl⟩
theorem tb_50 : Cond.fieldLink "DearVotes" 45 "DearVotes$House" "people" "I" ∈ hx_ws := List.mem_filter.mpr ⟨List.mem_of_getElem? (i := 50) (by decide +kernel), rfl⟩
theorem tb_51 : Cond.fieldLink "DearVotes$Rounds" 49 "DearVotes$House" "people" "I" ∈ hx_ws := List.mem_filter.mpr ⟨List.mem_of_getElem? (i := 51) (by decide +kernel), rfl⟩
theorem tb_52 : Cond.fieldLink "DearVotes$Fund" 31 "DearVotes$House" "people" "I" ∈ hx_ws := List.mem_filter.mpr ⟨List.mem_of_getElem? (i := 52) (by decide +kernel), rfl⟩
theorem tb_53 : Cond.fieldLink "DearVotes$Search" 52 "DearVotes$House" "questions" "I" ∈ hx_ws := List.mem_filter.mpr ⟨List.mem_of_getElem? (i := 53) (by decide +kernel), rfl⟩
theorem tb_54 : Cond.fieldLink "DearVotes" 53 "DearVotes$House" "questions" "I" ∈ hx_ws := List.mem_filter.mpr ⟨List.mem_of_getElem? (i := 54) (by decide +kernel), rfl⟩
theorem tb_55 : Cond.fieldLink "DearVotes$House" 31 "DearVotes$House" "questions" "I" ∈ hx_ws := List.mem_filter.mpr ⟨List.mem_of_getElem? (i := 55) (by decide +kernel), rfl⟩
theorem tb_56 : Cond.fieldLink "DearVotes" 59 "DearVotes$House" "seed" "I" ∈ hx_ws := List.mem_filter.mpr ⟨List.mem_of_getElem? (i := 56) (by decide +kernel), rfl⟩
theorem tb_57 : Cond.fieldLink "DearVotes$House" 38 "DearVotes$House" "seed" "I" ∈ hx_ws := List.mem_filter.mpr ⟨List.mem_of_getElem? (i := 57) (by decide +kernel), rfl⟩
theorem tb_58 : Cond.fieldLink "DearVotes$House" 9 "DearVotes$House" "budgets" "[I" ∈ hx_ws := List.mem_filter.mpr ⟨List.mem_of_getElem? (i := 58) (by decide +kernel), rfl⟩
theorem tb_59 : Cond.fieldLink "DearVotes$Search" 36 "DearVotes$House" "budgets" "[I" ∈ hx_ws := List.mem_filter.mpr ⟨List.mem_of_getElem? (i := 59) (by decide +kernel), rfl⟩
theorem tb_60 : Cond.fieldLink "DearVotes" 76 "DearVotes$House" "budgets" "[I" ∈ hx_ws := List.mem_filter.mpr ⟨List.mem_of_getElem? (i := 60) (by decide +kernel), rfl⟩
theorem tb_61 : Cond.fieldLink "DearVotes$House" 15 "DearVotes$House" "present" "[Z" ∈ hx_ws := List.mem_filter.mpr ⟨List.mem_of_getElem? (i := 61) (by decide +kernel), rfl⟩
theorem tb_62 : Cond.fieldLink "DearVotes$Rounds" 54 "DearVotes$House" "present" "[Z" ∈ hx_ws := List.mem_filter.mpr ⟨List.mem_of_getElem? (i := 62) (by decide +kernel), rfl⟩
theorem tb_63 : Cond.fieldLink "DearVotes" 83 "DearVotes$House" "present" "[Z" ∈ hx_ws := List.mem_filter.mpr ⟨List.mem_of_getElem? (i := 63) (by decide +kernel), rfl⟩
theorem tb_64 : Cond.fieldLink "DearVotes$House" 21 "DearVotes$House" "voices" "[[I" ∈ hx_ws := List.mem_filter.mpr ⟨List.mem_of_getElem? (i := 64) (by decide +kernel), rfl⟩
theorem tb_65 : Cond.fieldLink "DearVotes$Search" 70 "DearVotes$House" "voices" "[[I" ∈ hx_ws := List.mem_filter.mpr ⟨List.mem_of_getElem? (i := 65) (by decide +kernel), rfl⟩
theorem tb_66 : Cond.fieldLink "DearVotes" 69 "DearVotes$House" "voices" "[[I" ∈ hx_ws := List.mem_filter.mpr ⟨List.mem_of_getElem? (i := 66) (by decide +kernel), rfl⟩
theorem tb_67 : Cond.fieldLink "DearVotes$House" 24 "DearVotes$House" "worths" "[[I" ∈ hx_ws := List.mem_filter.mpr ⟨List.mem_of_getElem? (i := 67) (by decide +kernel), rfl⟩
theorem tb_68 : Cond.fieldLink "DearVotes$Search" 59 "DearVotes$House" "worths" "[[I" ∈ hx_ws := List.mem_filter.mpr ⟨List.mem_of_getElem? (i := 68) (by decide +kernel), rfl⟩
theorem tb_69 : Cond.fieldLink "DearVotes" 80 "DearVotes$House" "worths" "[[I" ∈ hx_ws := List.mem_filter.mpr ⟨List.mem_of_getElem? (i := 69) (by decide +kernel), rfl⟩
theorem tb_70 : Cond.lays "DearVotes$House" "DearVotes$House" "people" "I" ∈ hx_ws := List.mem_filter.mpr ⟨List.mem_of_getElem? (i := 70) (by decide +kernel), rfl⟩
theorem tb_71 : Cond.soleField "DearVotes$House" "people" ∈ hx_ws := List.mem_filter.mpr ⟨List.mem_of_getElem? (i := 71) (by decide +kernel), rfl⟩
theorem tb_72 : Cond.lays "DearVotes$House" "DearVotes$House" "questions" "I" ∈ hx_ws := List.mem_filter.mpr ⟨List.mem_of_getElem? (i := 72) (by decide +kernel), rfl⟩
theorem tb_73 : Cond.soleField "DearVotes$House" "questions" ∈ hx_ws := List.mem_filter.mpr ⟨List.mem_of_getElem? (i := 73) (by decide +kernel), rfl⟩
theorem tb_74 : Cond.lays "DearVotes$House" "DearVotes$House" "seed" "I" ∈ hx_ws := List.mem_filter.mpr ⟨List.mem_of_getElem? (i := 74) (by decide +kernel), rfl⟩
theorem tb_75 : Cond.soleField "DearVotes$House" "seed" ∈ hx_ws := List.mem_filter.mpr ⟨List.mem_of_getElem? (i := 75) (by decide +kernel), rfl⟩
theorem tb_76 : Cond.laysFinal "DearVotes$House" "DearVotes$House" "budgets" "[I" ∈ hx_ws := List.mem_filter.mpr ⟨List.mem_of_getElem? (i := 76) (by decide +kernel), rfl⟩
theorem tb_77 : Cond.soleField "DearVotes$House" "budgets" ∈ hx_ws := List.mem_filter.mpr ⟨List.mem_of_getElem? (i := 77) (by decide +kernel), rfl⟩
theorem tb_78 : Cond.laysFinal "DearVotes$House" "DearVotes$House" "present" "[Z" ∈ hx_ws := List.mem_filter.mpr ⟨List.mem_of_getElem? (i := 78) (by decide +kernel), rfl⟩
theorem tb_79 : Cond.soleField "DearVotes$House" "present" ∈ hx_ws := List.mem_filter.mpr ⟨List.mem_of_getElem? (i := 79) (by decide +kernel), rfl⟩
theorem tb_80 : Cond.laysFinal "DearVotes$House" "DearVotes$House" "voices" "[[I" ∈ hx_ws := List.mem_filter.mpr ⟨List.mem_of_getElem? (i := 80) (by decide +kernel), rfl⟩
theorem tb_81 : Cond.soleField "DearVotes$House" "voices" ∈ hx_ws := List.mem_filter.mpr ⟨List.mem_of_getElem? (i := 81) (by decide +kernel), rfl⟩
theorem tb_82 : Cond.laysFinal "DearVotes$House" "DearVotes$House" "worths" "[[I" ∈ hx_ws := List.mem_filter.mpr ⟨List.mem_of_getElem? (i := 82) (by decide +kernel), rfl⟩
theorem tb_83 : Cond.soleField "DearVotes$House" "worths" ∈ hx_ws := List.mem_filter.mpr ⟨List.mem_of_getElem? (i := 83) (by decide +kernel), rfl⟩
theorem tb_84 : Cond.superclass "DearVotes$House" "java/lang/Object" ∈ hx_ws := List.mem_filter.mpr ⟨List.mem_of_getElem? (i := 84) (by decide +kernel), rfl⟩
theorem tb_85 : Cond.arrayClass Jvm.ClassFile.FieldType.int ∈ hx_ws := List.mem_filter.mpr ⟨List.mem_of_getElem? (i := 85) (by decide +kernel), rfl⟩
theorem tb_86 : Cond.arrayClass Jvm.ClassFile.FieldType.boolean ∈ hx_ws := List.mem_filter.mpr ⟨List.mem_of_getElem? (i := 86) (by decide +kernel), rfl⟩
theorem tb_87 : Cond.classLink "DearVotes" 16 "DearVotes$Search" ∈ hx_ws := List.mem_filter.mpr ⟨List.mem_of_getElem? (i := 87) (by decide +kernel), rfl⟩
theorem tb_88 : Cond.instantiable "DearVotes$Search" 10 ∈ hx_ws := List.mem_filter.mpr ⟨List.mem_of_getElem? (i := 88) (by decide +kernel), rfl⟩
theorem tb_89 : Cond.methodLink "DearVotes" 18 ⟨"DearVotes$Search", "<init>", "(LDearVotes$House;)V"⟩ ∈ hx_ws := List.mem_filter.mpr ⟨List.mem_of_getElem? (i := 89) (by decide +kernel), rfl⟩
theorem tb_90 : Cond.instanceMethod ⟨"DearVotes$Search", "<init>", "(LDearVotes$House;)V"⟩ ∈ hx_ws := List.mem_filter.mpr ⟨List.mem_of_getElem? (i := 90) (by decide +kernel), rfl⟩
theorem tb_91 : Cond.code ⟨"DearVotes$Search", "<init>", "(LDearVotes$House;)V"⟩ prog_5_method_1_code 2 (Option.none : Option Jvm.ClassFile.FieldType) ∈ hx_ws := List.mem_filter.mpr ⟨List.mem_of_getElem? (i := 91) (by decide +kernel), rfl⟩
theorem tb_92 : Cond.methodLink "DearVotes$Search" 3 ⟨"java/lang/Object", "<init>", "()V"⟩ ∈ hx_ws := List.mem_filter.mpr ⟨List.mem_of_getElem? (i := 92) (by decide +kernel), rfl⟩
theorem tb_93 : Cond.classLink "DearVotes$Search" 15 "[[I" ∈ hx_ws := List.mem_filter.mpr ⟨List.mem_of_getElem? (i := 93) (by decide +kernel), rfl⟩
theorem tb_94 : Cond.fieldLink "DearVotes$Search" 32 "DearVotes$Search" "house" "LDearVotes$House;" ∈ hx_ws := List.mem_filter.mpr ⟨List.mem_of_getElem? (i := 94) (by decide +kernel), rfl⟩
theorem tb_95 : Cond.fieldLink "DearVotes$Search" 9 "DearVotes$Search" "choices" "[I" ∈ hx_ws := List.mem_filter.mpr ⟨List.mem_of_getElem? (i := 95) (by decide +kernel), rfl⟩
theorem tb_96 : Cond.fieldLink "DearVotes$Search" 17 "DearVotes$Search" "choiceVoices" "[[I" ∈ hx_ws := List.mem_filter.mpr ⟨List.mem_of_getElem? (i := 96) (by decide +kernel), rfl⟩
theorem tb_97 : Cond.fieldLink "DearVotes$Search" 20 "DearVotes$Search" "choiceGains" "[[I" ∈ hx_ws := List.mem_filter.mpr ⟨List.mem_of_getElem? (i := 97) (by decide +kernel), rfl⟩
theorem tb_98 : Cond.fieldLink "DearVotes$Search" 23 "DearVotes$Search" "gainAhead" "[I" ∈ hx_ws := List.mem_filter.mpr ⟨List.mem_of_getElem? (i := 98) (by decide +kernel), rfl⟩
theorem tb_99 : Cond.fieldLink "DearVotes$Search" 26 "DearVotes$Search" "tried" "[I" ∈ hx_ws := List.mem_filter.mpr ⟨List.mem_of_getElem? (i := 99) (by decide +kernel), rfl⟩
theorem tb_100 : Cond.fieldLink "DearVotes$Search" 29 "DearVotes$Search" "found" "[I" ∈ hx_ws := List.mem_filter.mpr ⟨List.mem_of_getElem? (i := 100) (by decide +kernel), rfl⟩
theorem tb_101 : Cond.fieldLink "DearVotes" 108 "DearVotes$Search" "found" "[I" ∈ hx_ws := List.mem_filter.mpr ⟨List.mem_of_getElem? (i := 101) (by decide +kernel), rfl⟩
theorem tb_102 : Cond.fieldLink "DearVotes$Search" 46 "DearVotes$Search" "foundGain" "I" ∈ hx_ws := List.mem_filter.mpr ⟨List.mem_of_getElem? (i := 102) (by decide +kernel), rfl⟩
theorem tb_103 : Cond.fieldLink "DearVotes$Rounds" 63 "DearVotes$Search" "foundGain" "I" ∈ hx_ws := List.mem_filter.mpr ⟨List.mem_of_getElem? (i := 103) (by decide +kernel), rfl⟩
theorem tb_104 : Cond.fieldLink "DearVotes" 105 "DearVotes$Search" "foundGain" "I" ∈ hx_ws := List.mem_filter.mpr ⟨List.mem_of_getElem? (i := 104) (by decide +kernel), rfl⟩
theorem tb_105 : Cond.fieldLink "DearVotes$Search" 49 "DearVotes$Search" "foundCost" "I" ∈ hx_ws := List.mem_filter.mpr ⟨List.mem_of_getElem? (i := 105) (by decide +kernel), rfl⟩
theorem tb_106 : Cond.fieldLink "DearVotes$Search" 41 "DearVotes$Search" "budget" "I" ∈ hx_ws := List.mem_filter.mpr ⟨List.mem_of_getElem? (i := 106) (by decide +kernel), rfl⟩
theorem tb_107 : Cond.laysFinal "DearVotes$Search" "DearVotes$Search" "house" "LDearVotes$House;" ∈ hx_ws := List.mem_filter.mpr ⟨List.mem_of_getElem? (i := 107) (by decide +kernel), rfl⟩
theorem tb_108 : Cond.soleField "DearVotes$Search" "house" ∈ hx_ws := List.mem_filter.mpr ⟨List.mem_of_getElem? (i := 108) (by decide +kernel), rfl⟩
theorem tb_109 : Cond.laysFinal "DearVotes$Search" "DearVotes$Search" "choices" "[I" ∈ hx_ws := List.mem_filter.mpr ⟨List.mem_of_getElem? (i := 109) (by decide +kernel), rfl⟩
theorem tb_110 : Cond.soleField "DearVotes$Search" "choices" ∈ hx_ws := List.mem_filter.mpr ⟨List.mem_of_getElem? (i := 110) (by decide +kernel), rfl⟩
theorem tb_111 : Cond.laysFinal "DearVotes$Search" "DearVotes$Search" "choiceVoices" "[[I" ∈ hx_ws := List.mem_filter.mpr ⟨List.mem_of_getElem? (i := 111) (by decide +kernel), rfl⟩
theorem tb_112 : Cond.soleField "DearVotes$Search" "choiceVoices" ∈ hx_ws := List.mem_filter.mpr ⟨List.mem_of_getElem? (i := 112) (by decide +kernel), rfl⟩
theorem tb_113 : Cond.laysFinal "DearVotes$Search" "DearVotes$Search" "choiceGains" "[[I" ∈ hx_ws := List.mem_filter.mpr ⟨List.mem_of_getElem? (i := 113) (by decide +kernel), rfl⟩
theorem tb_114 : Cond.soleField "DearVotes$Search" "choiceGains" ∈ hx_ws := List.mem_filter.mpr ⟨List.mem_of_getElem? (i := 114) (by decide +kernel), rfl⟩
theorem tb_115 : Cond.laysFinal "DearVotes$Search" "DearVotes$Search" "gainAhead" "[I" ∈ hx_ws := List.mem_filter.mpr ⟨List.mem_of_getElem? (i := 115) (by decide +kernel), rfl⟩
theorem tb_116 : Cond.soleField "DearVotes$Search" "gainAhead" ∈ hx_ws := List.mem_filter.mpr ⟨List.mem_of_getElem? (i := 116) (by decide +kernel), rfl⟩
theorem tb_117 : Cond.laysFinal "DearVotes$Search" "DearVotes$Search" "tried" "[I" ∈ hx_ws := List.mem_filter.mpr ⟨List.mem_of_getElem? (i := 117) (by decide +kernel), rfl⟩
theorem tb_118 : Cond.soleField "DearVotes$Search" "tried" ∈ hx_ws := List.mem_filter.mpr ⟨List.mem_of_getElem? (i := 118) (by decide +kernel), rfl⟩
theorem tb_119 : Cond.laysFinal "DearVotes$Search" "DearVotes$Search" "found" "[I" ∈ hx_ws := List.mem_filter.mpr ⟨List.mem_of_getElem? (i := 119) (by decide +kernel), rfl⟩
theorem tb_120 : Cond.soleField "DearVotes$Search" "found" ∈ hx_ws := List.mem_filter.mpr ⟨List.mem_of_getElem? (i := 120) (by decide +kernel), rfl⟩
theorem tb_121 : Cond.lays "DearVotes$Search" "DearVotes$Search" "foundGain" "I" ∈ hx_ws := List.mem_filter.mpr ⟨List.mem_of_getElem? (i := 121) (by decide +kernel), rfl⟩
theorem tb_122 : Cond.soleField "DearVotes$Search" "foundGain" ∈ hx_ws := List.mem_filter.mpr ⟨List.mem_of_getElem? (i := 122) (by decide +kernel), rfl⟩
theorem tb_123 : Cond.lays "DearVotes$Search" "DearVotes$Search" "foundCost" "I" ∈ hx_ws := List.mem_filter.mpr ⟨List.mem_of_getElem? (i := 123) (by decide +kernel), rfl⟩
theorem tb_124 : Cond.soleField "DearVotes$Search" "foundCost" ∈ hx_ws := List.mem_filter.mpr ⟨List.mem_of_getElem? (i := 124) (by decide +kernel), rfl⟩
theorem tb_125 : Cond.lays "DearVotes$Search" "DearVotes$Search" "budget" "I" ∈ hx_ws := List.mem_filter.mpr ⟨List.mem_of_getElem? (i := 125) (by decide +kernel), rfl⟩
theorem tb_126 : Cond.soleField "DearVotes$Search" "budget" ∈ hx_ws := List.mem_filter.mpr ⟨List.mem_of_getElem? (i := 126) (by decide +kernel), rfl⟩
theorem tb_127 : Cond.superclass "DearVotes$Search" "java/lang/Object" ∈ hx_ws := List.mem_filter.mpr ⟨List.mem_of_getElem? (i := 127) (by decide +kernel), rfl⟩
theorem tb_128 : Cond.classLink "DearVotes" 25 "DearVotes$Rounds" ∈ hx_ws := List.mem_filter.mpr ⟨List.mem_of_getElem? (i := 128) (by decide +kernel), rfl⟩
theorem tb_129 : Cond.instantiable "DearVotes$Rounds" 7 ∈ hx_ws := List.mem_filter.mpr ⟨List.mem_of_getElem? (i := 129) (by decide +kernel), rfl⟩
theorem tb_130 : Cond.methodLink "DearVotes" 27 ⟨"DearVotes$Rounds", "<init>", "(LDearVotes$House;LDearVotes$Search;)V"⟩ ∈ hx_ws := List.mem_filter.mpr ⟨List.mem_of_getElem? (i := 130) (by decide +kernel), rfl⟩
theorem tb_131 : Cond.instanceMethod ⟨"DearVotes$Rounds", "<init>", "(LDearVotes$House;LDearVotes$Search;)V"⟩ ∈ hx_ws := List.mem_filter.mpr ⟨List.mem_of_getElem? (i := 131) (by decide +kernel), rfl⟩
theorem tb_132 : Cond.code ⟨"DearVotes$Rounds", "<init>", "(LDearVotes$House;LDearVotes$Search;)V"⟩ prog_4_method_1_code 3 (Option.none : Option Jvm.ClassFile.FieldType) ∈ hx_ws := List.mem_filter.mpr ⟨List.mem_of_getElem? (i := 132) (by decide +kernel), rfl⟩
theorem tb_133 : Cond.methodLink "DearVotes$Rounds" 3 ⟨"java/lang/Object", "<init>", "()V"⟩ ∈ hx_ws := List.mem_filter.mpr ⟨List.mem_of_getElem? (i := 133) (by decide +kernel), rfl⟩
theorem tb_134 : Cond.classLink "DearVotes$Rounds" 9 "[[J" ∈ hx_ws := List.mem_filter.mpr ⟨List.mem_of_getElem? (i := 134) (by decide +kernel), rfl⟩
theorem tb_135 : Cond.arrayOver (Jvm.ClassFile.FieldType.array Jvm.ClassFile.FieldType.long) ∈ lw_tbl := List.mem_of_getElem? (i := 135) (by decide +kernel)
theorem tb_136 : Cond.fieldLink "DearVotes$Rounds" 20 "DearVotes$Rounds" "house" "LDearVotes$House;" ∈ hx_ws := List.mem_filter.mpr ⟨List.mem_of_getElem? (i := 136) (by decide +kernel), rfl⟩
theorem tb_137 : Cond.fieldLink "DearVotes$Rounds" 24 "DearVotes$Rounds" "search" "LDearVotes$Search;" ∈ hx_ws := List.mem_filter.mpr ⟨List.mem_of_getElem? (i := 137) (by decide +kernel), rfl⟩
theorem tb_138 : Cond.fieldLink "DearVotes$Rounds" 11 "DearVotes$Rounds" "trail" "[[J" ∈ hx_ws := List.mem_filter.mpr ⟨List.mem_of_getElem? (i := 138) (by decide +kernel), rfl⟩
theorem tb_139 : Cond.fieldLink "DearVotes$Rounds" 39 "DearVotes$Rounds" "doneEver" "I" ∈ hx_ws := List.mem_filter.mpr ⟨List.mem_of_getElem? (i := 139) (by decide +kernel), rfl⟩
theorem tb_140 : Cond.fieldLink "DearVotes" 163 "DearVotes$Rounds" "doneEver" "I" ∈ hx_ws := List.mem_filter.mpr ⟨List.mem_of_getElem? (i := 140) (by decide +kernel), rfl⟩
theorem tb_141 : Cond.fieldLink "DearVotes$Rounds" 42 "DearVotes$Rounds" "changesEver" "I" ∈ hx_ws := List.mem_filter.mpr ⟨List.mem_of_getElem? (i := 141) (by decide +kernel), rfl⟩
theorem tb_142 : Cond.fieldLink "DearVotes" 166 "DearVotes$Rounds" "changesEver" "I" ∈ hx_ws := List.mem_filter.mpr ⟨List.mem_of_getElem? (i := 142) (by decide +kernel), rfl⟩
theorem tb_143 : Cond.fieldLink "DearVotes$Rounds" 16 "DearVotes$Rounds" "ending" "I" ∈ hx_ws := List.mem_filter.mpr ⟨List.mem_of_getElem? (i := 143) (by decide +kernel), rfl⟩
theorem tb_144 : Cond.fieldLink "DearVotes" 117 "DearVotes$Rounds" "ending" "I" ∈ hx_ws := List.mem_filter.mpr ⟨List.mem_of_getElem? (i := 144) (by decide +kernel), rfl⟩
theorem tb_145 : Cond.fieldLink "DearVotes$Rounds" 28 "DearVotes$Rounds" "ringLength" "I" ∈ hx_ws := List.mem_filter.mpr ⟨List.mem_of_getElem? (i := 145) (by decide +kernel), rfl⟩
theorem tb_146 : Cond.fieldLink "DearVotes" 120 "DearVotes$Rounds" "ringLength" "I" ∈ hx_ws := List.mem_filter.mpr ⟨List.mem_of_getElem? (i := 146) (by decide +kernel), rfl⟩
theorem tb_147 : Cond.laysFinal "DearVotes$Rounds" "DearVotes$Rounds" "house" "LDearVotes$House;" ∈ hx_ws := List.mem_filter.mpr ⟨List.mem_of_getElem? (i := 147) (by decide +kernel), rfl⟩
theorem tb_148 : Cond.soleField "DearVotes$Rounds" "house" ∈ hx_ws := List.mem_filter.mpr ⟨List.mem_of_getElem? (i := 148) (by decide +kernel), rfl⟩
theorem tb_149 : Cond.laysFinal "DearVotes$Rounds" "DearVotes$Rounds" "search" "LDearVotes$Search;" ∈ hx_ws := List.mem_filter.mpr ⟨List.mem_of_getElem? (i := 149) (by decide +kernel), rfl⟩
theorem tb_150 : Cond.soleField "DearVotes$Rounds" "search" ∈ hx_ws := List.mem_filter.mpr ⟨List.mem_of_getElem? (i := 150) (by decide +kernel), rfl⟩
theorem tb_151 : Cond.laysFinal "DearVotes$Rounds" "DearVotes$Rounds" "trail" "[[J" ∈ hx_ws := List.mem_filter.mpr ⟨List.mem_of_getElem? (i := 151) (by decide +kernel), rfl⟩
theorem tb_152 : Cond.soleField "DearVotes$Rounds" "trail" ∈ hx_ws := List.mem_filter.mpr ⟨List.mem_of_getElem? (i := 152) (by decide +kernel), rfl⟩
theorem tb_153 : Cond.lays "DearVotes$Rounds" "DearVotes$Rounds" "doneEver" "I" ∈ hx_ws := List.mem_filter.mpr ⟨List.mem_of_getElem? (i := 153) (by decide +kernel), rfl⟩
theorem tb_154 : Cond.soleField "DearVotes$Rounds" "doneEver" ∈ hx_ws := List.mem_filter.mpr ⟨List.mem_of_getElem? (i := 154) (by decide +kernel), rfl⟩
theorem tb_155 : Cond.lays "DearVotes$Rounds" "DearVotes$Rounds" "changesEver" "I" ∈ hx_ws := List.mem_filter.mpr ⟨List.mem_of_getElem? (i := 155) (by decide +kernel), rfl⟩
theorem tb_156 : Cond.soleField "DearVotes$Rounds" "changesEver" ∈ hx_ws := List.mem_filter.mpr ⟨List.mem_of_getElem? (i := 156) (by decide +kernel), rfl⟩
theorem tb_157 : Cond.lays "DearVotes$Rounds" "DearVotes$Rounds" "ending" "I" ∈ hx_ws := List.mem_filter.mpr ⟨List.mem_of_getElem? (i := 157) (by decide +kernel), rfl⟩
theorem tb_158 : Cond.soleField "DearVotes$Rounds" "ending" ∈ hx_ws := List.mem_filter.mpr ⟨List.mem_of_getElem? (i := 158) (by decide +kernel), rfl⟩
theorem tb_159 : Cond.lays "DearVotes$Rounds" "DearVotes$Rounds" "ringLength" "I" ∈ hx_ws := List.mem_filter.mpr ⟨List.mem_of_getElem? (i := 159) (by decide +kernel), rfl⟩
theorem tb_160 : Cond.soleField "DearVotes$Rounds" "ringLength" ∈ hx_ws := List.mem_filter.mpr ⟨List.mem_of_getElem? (i := 160) (by decide +kernel), rfl⟩
theorem tb_161 : Cond.superclass "DearVotes$Rounds" "java/lang/Object" ∈ hx_ws := List.mem_filter.mpr ⟨List.mem_of_getElem? (i := 161) (by decide +kernel), rfl⟩
theorem tb_162 : Cond.arrayClass Jvm.ClassFile.FieldType.long ∈ hx_ws := List.mem_filter.mpr ⟨List.mem_of_getElem? (i := 162) (by decide +kernel), rfl⟩
theorem tb_163 : Cond.classLink "DearVotes" 34 "DearVotes$Fund" ∈ hx_ws := List.mem_filter.mpr ⟨List.mem_of_getElem? (i := 163) (by decide +kernel), rfl⟩
theorem tb_164 : Cond.instantiable "DearVotes$Fund" 5 ∈ hx_ws := List.mem_filter.mpr ⟨List.mem_of_getElem? (i := 164) (by decide +kernel), rfl⟩
theorem tb_165 : Cond.methodLink "DearVotes" 36 ⟨"DearVotes$Fund", "<init>", "(LDearVotes$House;)V"⟩ ∈ hx_ws := List.mem_filter.mpr ⟨List.mem_of_getElem? (i := 165) (by decide +kernel), rfl⟩
theorem tb_166 : Cond.instanceMethod ⟨"DearVotes$Fund", "<init>", "(LDearVotes$House;)V"⟩ ∈ hx_ws := List.mem_filter.mpr ⟨List.mem_of_getElem? (i := 166) (by decide +kernel), rfl⟩
theorem tb_167 : Cond.code ⟨"DearVotes$Fund", "<init>", "(LDearVotes$House;)V"⟩ prog_2_method_1_code 4 (Option.none : Option Jvm.ClassFile.FieldType) ∈ hx_ws := List.mem_filter.mpr ⟨List.mem_of_getElem? (i := 167) (by decide +kernel), rfl⟩
theorem tb_168 : Cond.methodLink "DearVotes$Fund" 3 ⟨"java/lang/Object", "<init>", "()V"⟩ ∈ hx_ws := List.mem_filter.mpr ⟨List.mem_of_getElem? (i := 168) (by decide +kernel), rfl⟩
theorem tb_169 : Cond.classLink "DearVotes$Fund" 9 "[[I" ∈ hx_ws := List.mem_filter.mpr ⟨List.mem_of_getElem? (i := 169) (by decide +kernel), rfl⟩
theorem tb_170 : Cond.fieldLink "DearVotes$Fund" 23 "DearVotes$Fund" "house" "LDearVotes$House;" ∈ hx_ws := List.mem_filter.mpr ⟨List.mem_of_getElem? (i := 170) (by decide +kernel), rfl⟩
theorem tb_171 : Cond.fieldLink "DearVotes$Fund" 27 "DearVotes$Fund" "projects" "I" ∈ hx_ws := List.mem_filter.mpr ⟨List.mem_of_getElem? (i := 171) (by decide +kernel), rfl⟩
theorem tb_172 : Cond.fieldLink "DearVotes" 56 "DearVotes$Fund" "projects" "I" ∈ hx_ws := List.mem_filter.mpr ⟨List.mem_of_getElem? (i := 172) (by decide +kernel), rfl⟩
theorem tb_173 : Cond.fieldLink "DearVotes$Fund" 11 "DearVotes$Fund" "gifts" "[[I" ∈ hx_ws := List.mem_filter.mpr ⟨List.mem_of_getElem? (i := 173) (by decide +kernel), rfl⟩
theorem tb_174 : Cond.fieldLink "DearVotes" 127 "DearVotes$Fund" "gifts" "[[I" ∈ hx_ws := List.mem_filter.mpr ⟨List.mem_of_getElem? (i := 174) (by decide +kernel), rfl⟩
theorem tb_175 : Cond.fieldLink "DearVotes$Fund" 16 "DearVotes$Fund" "bonds" "[[I" ∈ hx_ws := List.mem_filter.mpr ⟨List.mem_of_getElem? (i := 175) (by decide +kernel), rfl⟩
theorem tb_176 : Cond.fieldLink "DearVotes" 130 "DearVotes$Fund" "bonds" "[[I" ∈ hx_ws := List.mem_filter.mpr ⟨List.mem_of_getElem? (i := 176) (by decide +kernel), rfl⟩
theorem tb_177 : Cond.fieldLink "DearVotes$Fund" 19 "DearVotes$Fund" "lows" "[J" ∈ hx_ws := List.mem_filter.mpr ⟨List.mem_of_getElem? (i := 177) (by decide +kernel), rfl⟩
theorem tb_178 : Cond.laysFinal "DearVotes$Fund" "DearVotes$Fund" "house" "LDearVotes$House;" ∈ hx_ws := List.mem_filter.mpr ⟨List.mem_of_getElem? (i := 178) (by decide +kernel), rfl⟩
theorem tb_179 : Cond.soleField "DearVotes$Fund" "house" ∈ hx_ws := List.mem_filter.mpr ⟨List.mem_of_getElem? (i := 179) (by decide +kernel), rfl⟩
theorem tb_180 : Cond.lays "DearVotes$Fund" "DearVotes$Fund" "projects" "I" ∈ hx_ws := List.mem_filter.mpr ⟨List.mem_of_getElem? (i := 180) (by decide +kernel), rfl⟩
theorem tb_181 : Cond.soleField "DearVotes$Fund" "projects" ∈ hx_ws := List.mem_filter.mpr ⟨List.mem_of_getElem? (i := 181) (by decide +kernel), rfl⟩
theorem tb_182 : Cond.laysFinal "DearVotes$Fund" "DearVotes$Fund" "gifts" "[[I" ∈ hx_ws := List.mem_filter.mpr ⟨List.mem_of_getElem? (i := 182) (by decide +kernel), rfl⟩
theorem tb_183 : Cond.soleField "DearVotes$Fund" "gifts" ∈ hx_ws := List.mem_filter.mpr ⟨List.mem_of_getElem? (i := 183) (by decide +kernel), rfl⟩
theorem tb_184 : Cond.laysFinal "DearVotes$Fund" "DearVotes$Fund" "bonds" "[[I" ∈ hx_ws := List.mem_filter.mpr ⟨List.mem_of_getElem? (i := 184) (by decide +kernel), rfl⟩
theorem tb_185 : Cond.soleField "DearVotes$Fund" "bonds" ∈ hx_ws := List.mem_filter.mpr ⟨List.mem_of_getElem? (i := 185) (by decide +kernel), rfl⟩
theorem tb_186 : Cond.laysFinal "DearVotes$Fund" "DearVotes$Fund" "lows" "[J" ∈ hx_ws := List.mem_filter.mpr ⟨List.mem_of_getElem? (i := 186) (by decide +kernel), rfl⟩
theorem tb_187 : Cond.soleField "DearVotes$Fund" "lows" ∈ hx_ws := List.mem_filter.mpr ⟨List.mem_of_getElem? (i := 187) (by decide +kernel), rfl⟩
theorem tb_188 : Cond.superclass "DearVotes$Fund" "java/lang/Object" ∈ hx_ws := List.mem_filter.mpr ⟨List.mem_of_getElem? (i := 188) (by decide +kernel), rfl⟩
theorem tb_189 : Cond.fieldLink "DearVotes" 10 "DearVotes" "house" "LDearVotes$House;" ∈ hx_ws := List.mem_filter.mpr ⟨List.mem_of_getElem? (i := 189) (by decide +kernel), rfl⟩
theorem tb_190 : Cond.fieldLink "DearVotes" 21 "DearVotes" "search" "LDearVotes$Search;" ∈ hx_ws := List.mem_filter.mpr ⟨List.mem_of_getElem? (i := 190) (by decide +kernel), rfl⟩
theorem tb_191 : Cond.fieldLink "DearVotes" 30 "DearVotes" "rounds" "LDearVotes$Rounds;" ∈ hx_ws := List.mem_filter.mpr ⟨List.mem_of_getElem? (i := 191) (by decide +kernel), rfl⟩
theorem tb_192 : Cond.fieldLink "DearVotes" 37 "DearVotes" "fund" "LDearVotes$Fund;" ∈ hx_ws := List.mem_filter.mpr ⟨List.mem_of_getElem? (i := 192) (by decide +kernel), rfl⟩
theorem tb_193 : Cond.laysFinal "DearVotes" "DearVotes" "house" "LDearVotes$House;" ∈ hx_ws := List.mem_filter.mpr ⟨List.mem_of_getElem? (i := 193) (by decide +kernel), rfl⟩
theorem tb_194 : Cond.soleField "DearVotes" "house" ∈ hx_ws := List.mem_filter.mpr ⟨List.mem_of_getElem? (i := 194) (by decide +kernel), rfl⟩
theorem tb_195 : Cond.laysFinal "DearVotes" "DearVotes" "search" "LDearVotes$Search;" ∈ hx_ws := List.mem_filter.mpr ⟨List.mem_of_getElem? (i := 195) (by decide +kernel), rfl⟩
theorem tb_196 : Cond.soleField "DearVotes" "search" ∈ hx_ws := List.mem_filter.mpr ⟨List.mem_of_getElem? (i := 196) (by decide +kernel), rfl⟩
theorem tb_197 : Cond.laysFinal "DearVotes" "DearVotes" "rounds" "LDearVotes$Rounds;" ∈ hx_ws := List.mem_filter.mpr ⟨List.mem_of_getElem? (i := 197) (by decide +kernel), rfl⟩
theorem tb_198 : Cond.soleField "DearVotes" "rounds" ∈ hx_ws := List.mem_filter.mpr ⟨List.mem_of_getElem? (i := 198) (by decide +kernel), rfl⟩
theorem tb_199 : Cond.laysFinal "DearVotes" "DearVotes" "fund" "LDearVotes$Fund;" ∈ hx_ws := List.mem_filter.mpr ⟨List.mem_of_getElem? (i := 199) (by decide +kernel), rfl⟩
theorem tb_200 : Cond.soleField "DearVotes" "fund" ∈ hx_ws := List.mem_filter.mpr ⟨List.mem_of_getElem? (i := 200) (by decide +kernel), rfl⟩
theorem tb_201 : Cond.superclass "DearVotes" "java/lang/Object" ∈ hx_ws := List.mem_filter.mpr ⟨List.mem_of_getElem? (i := 201) (by decide +kernel), rfl⟩
theorem tb_202 : Cond.methodLink "DearVotesLaw" 13 ⟨"DearVotes", "person", "(I)I"⟩ ∈ hx_ws := List.mem_filter.mpr ⟨List.mem_of_getElem? (i := 202) (by decide +kernel), rfl⟩
theorem tb_203 : Cond.instanceMethod ⟨"DearVotes", "person", "(I)I"⟩ ∈ hx_ws := List.mem_filter.mpr ⟨List.mem_of_getElem? (i := 203) (by decide +kernel), rfl⟩
theorem tb_204 : Cond.selects "DearVotes" ⟨"DearVotes", "person", "(I)I"⟩ ⟨"DearVotes", "person", "(I)I"⟩ ∈ hx_ws := List.mem_filter.mpr ⟨List.mem_of_getElem? (i := 204) (by decide +kernel), rfl⟩
theorem tb_205 : Cond.code ⟨"DearVotes", "person", "(I)I"⟩ prog_1_method_2_code 2 (Option.some Jvm.ClassFile.FieldType.int) ∈ hx_ws := List.mem_filter.mpr ⟨List.mem_of_getElem? (i := 205) (by decide +kernel), rfl⟩
theorem tb_206 : Cond.methodLink "DearVotes" 41 ⟨"DearVotes", "isWithin", "(III)Z"⟩ ∈ hx_ws := List.mem_filter.mpr ⟨List.mem_of_getElem? (i := 206) (by decide +kernel), rfl⟩
theorem tb_207 : Cond.static ⟨"DearVotes", "isWithin", "(III)Z"⟩ ∈ hx_ws := List.mem_filter.mpr ⟨List.mem_of_getElem? (i := 207) (by decide +kernel), rfl⟩
theorem tb_208 : Cond.code ⟨"DearVotes", "isWithin", "(III)Z"⟩ prog_1_method_30_code 3 (Option.some Jvm.ClassFile.FieldType.boolean) ∈ hx_ws := List.mem_filter.mpr ⟨List.mem_of_getElem? (i := 208) (by decide +kernel), rfl⟩
theorem tb_209 : Cond.methodLink "DearVotes" 49 ⟨"DearVotes$House", "addPerson", "(I)I"⟩ ∈ hx_ws := List.mem_filter.mpr ⟨List.mem_of_getElem? (i := 209) (by decide +kernel), rfl⟩
theorem tb_210 : Cond.instanceMethod ⟨"DearVotes$House", "addPerson", "(I)I"⟩ ∈ hx_ws := List.mem_filter.mpr ⟨List.mem_of_getElem? (i := 210) (by decide +kernel), rfl⟩
theorem tb_211 : Cond.selects "DearVotes$House" ⟨"DearVotes$House", "addPerson", "(I)I"⟩ ⟨"DearVotes$House", "addPerson", "(I)I"⟩ ∈ hx_ws := List.mem_filter.mpr ⟨List.mem_of_getElem? (i := 211) (by decide +kernel), rfl⟩
theorem tb_212 : Cond.code ⟨"DearVotes$House", "addPerson", "(I)I"⟩ prog_3_method_4_code 2 (Option.some Jvm.ClassFile.FieldType.int) ∈ hx_ws := List.mem_filter.mpr ⟨List.mem_of_getElem? (i := 212) (by decide +kernel), rfl⟩
theorem tb_213 : Cond.methodLink "DearVotesLaw" 18 ⟨"DearVotes", "question", "()I"⟩ ∈ hx_ws := List.mem_filter.mpr ⟨List.mem_of_getElem? (i := 213) (by decide +kernel), rfl⟩
theorem tb_214 : Cond.instanceMethod ⟨"DearVotes", "question", "()I"⟩ ∈ hx_ws := List.mem_filter.mpr ⟨List.mem_of_getElem? (i := 214) (by decide +kernel), rfl⟩
theorem tb_215 : Cond.selects "DearVotes" ⟨"DearVotes", "question", "()I"⟩ ⟨"DearVotes", "question", "()I"⟩ ∈ hx_ws := List.mem_filter.mpr ⟨List.mem_of_getElem? (i := 215) (by decide +kernel), rfl⟩
theorem tb_216 : Cond.code ⟨"DearVotes", "question", "()I"⟩ prog_1_method_3_code 1 (Option.some Jvm.ClassFile.FieldType.int) ∈ hx_ws := List.mem_filter.mpr ⟨List.mem_of_getElem? (i := 216) (by decide +kernel), rfl⟩
theorem tb_217 : Cond.methodLink "DearVotesLaw" 23 ⟨"DearVotes", "project", "()I"⟩ ∈ hx_ws := List.mem_filter.mpr ⟨List.mem_of_getElem? (i := 217) (by decide +kernel), rfl⟩
theorem tb_218 : Cond.instanceMethod ⟨"DearVotes", "project", "()I"⟩ ∈ hx_ws := List.mem_filter.mpr ⟨List.mem_of_getElem? (i := 218) (by decide +kernel), rfl⟩
theorem tb_219 : Cond.selects "DearVotes" ⟨"DearVotes", "project", "()I"⟩ ⟨"DearVotes", "project", "()I"⟩ ∈ hx_ws := List.mem_filter.mpr ⟨List.mem_of_getElem? (i := 219) (by decide +kernel), rfl⟩
theorem tb_220 : Cond.code ⟨"DearVotes", "project", "()I"⟩ prog_1_method_4_code 1 (Option.some Jvm.ClassFile.FieldType.int) ∈ hx_ws := List.mem_filter.mpr ⟨List.mem_of_getElem? (i := 220) (by decide +kernel), rfl⟩
theorem tb_221 : Cond.methodLink "DearVotesLaw" 27 ⟨"DearVotes", "seed", "(I)I"⟩ ∈ hx_ws := List.mem_filter.mpr ⟨List.mem_of_getElem? (i := 221) (by decide +kernel), rfl⟩
theorem tb_222 : Cond.instanceMethod ⟨"DearVotes", "seed", "(I)I"⟩ ∈ hx_ws := List.mem_filter.mpr ⟨List.mem_of_getElem? (i := 222) (by decide +kernel), rfl⟩
theorem tb_223 : Cond.selects "DearVotes" ⟨"DearVotes", "seed", "(I)I"⟩ ⟨"DearVotes", "seed", "(I)I"⟩ ∈ hx_ws := List.mem_filter.mpr ⟨List.mem_of_getElem? (i := 223) (by decide +kernel), rfl⟩
theorem tb_224 : Cond.code ⟨"DearVotes", "seed", "(I)I"⟩ prog_1_method_5_code 3 (Option.some Jvm.ClassFile.FieldType.int) ∈ hx_ws := List.mem_filter.mpr ⟨List.mem_of_getElem? (i := 224) (by decide +kernel), rfl⟩
theorem tb_225 : Cond.methodLink "DearVotesLaw" 31 ⟨"DearVotes", "vote", "(III)I"⟩ ∈ hx_ws := List.mem_filter.mpr ⟨List.mem_of_getElem? (i := 225) (by decide +kernel), rfl⟩
theorem tb_226 : Cond.instanceMethod ⟨"DearVotes", "vote", "(III)I"⟩ ∈ hx_ws := List.mem_filter.mpr ⟨List.mem_of_getElem? (i := 226) (by decide +kernel), rfl⟩
theorem tb_227 : Cond.selects "DearVotes" ⟨"DearVotes", "vote", "(III)I"⟩ ⟨"DearVotes", "vote", "(III)I"⟩ ∈ hx_ws := List.mem_filter.mpr ⟨List.mem_of_getElem? (i := 227) (by decide +kernel), rfl⟩
theorem tb_228 : Cond.code ⟨"DearVotes", "vote", "(III)I"⟩ prog_1_method_6_code 6 (Option.some Jvm.ClassFile.FieldType.int) ∈ hx_ws := List.mem_filter.mpr ⟨List.mem_of_getElem? (i := 228) (by decide +kernel), rfl⟩
theorem tb_229 : Cond.methodLink "DearVotes" 62 ⟨"DearVotes$House", "hasPerson", "(I)Z"⟩ ∈ hx_ws := List.mem_filter.mpr ⟨List.mem_of_getElem? (i := 229) (by decide +kernel), rfl⟩
theorem tb_230 : Cond.instanceMethod ⟨"DearVotes$House", "hasPerson", "(I)Z"⟩ ∈ hx_ws := List.mem_filter.mpr ⟨List.mem_of_getElem? (i := 230) (by decide +kernel), rfl⟩
theorem tb_231 : Cond.selects "DearVotes$House" ⟨"DearVotes$House", "hasPerson", "(I)Z"⟩ ⟨"DearVotes$House", "hasPerson", "(I)Z"⟩ ∈ hx_ws := List.mem_filter.mpr ⟨List.mem_of_getElem? (i := 231) (by decide +kernel), rfl⟩
theorem tb_232 : Cond.code ⟨"DearVotes$House", "hasPerson", "(I)Z"⟩ prog_3_method_2_code 2 (Option.some Jvm.ClassFile.FieldType.boolean) ∈ hx_ws := List.mem_filter.mpr ⟨List.mem_of_getElem? (i := 232) (by decide +kernel), rfl⟩
theorem tb_233 : Cond.methodLink "DearVotes" 66 ⟨"DearVotes$House", "hasQuestion", "(I)Z"⟩ ∈ hx_ws := List.mem_filter.mpr ⟨List.mem_of_getElem? (i := 233) (by decide +kernel), rfl⟩
theorem tb_234 : Cond.instanceMethod ⟨"DearVotes$House", "hasQuestion", "(I)Z"⟩ ∈ hx_ws := List.mem_filter.mpr ⟨List.mem_of_getElem? (i := 234) (by decide +kernel), rfl⟩
theorem tb_235 : Cond.selects "DearVotes$House" ⟨"DearVotes$House", "hasQuestion", "(I)Z"⟩ ⟨"DearVotes$House", "hasQuestion", "(I)Z"⟩ ∈ hx_ws := List.mem_filter.mpr ⟨List.mem_of_getElem? (i := 235) (by decide +kernel), rfl⟩
theorem tb_236 : Cond.code ⟨"DearVotes$House", "hasQuestion", "(I)Z"⟩ prog_3_method_3_code 2 (Option.some Jvm.ClassFile.FieldType.boolean) ∈ hx_ws := List.mem_filter.mpr ⟨List.mem_of_getElem? (i := 236) (by decide +kernel), rfl⟩
theorem tb_237 : Cond.methodLink "DearVotes" 73 ⟨"DearVotes$House", "costOf", "(I)I"⟩ ∈ hx_ws := List.mem_filter.mpr ⟨List.mem_of_getElem? (i := 237) (by decide +kernel), rfl⟩
theorem tb_238 : Cond.instanceMethod ⟨"DearVotes$House", "costOf", "(I)I"⟩ ∈ hx_ws := List.mem_filter.mpr ⟨List.mem_of_getElem? (i := 238) (by decide +kernel), rfl⟩
theorem tb_239 : Cond.selects "DearVotes$House" ⟨"DearVotes$House", "costOf", "(I)I"⟩ ⟨"DearVotes$House", "costOf", "(I)I"⟩ ∈ hx_ws := List.mem_filter.mpr ⟨List.mem_of_getElem? (i := 239) (by decide +kernel), rfl⟩
theorem tb_240 : Cond.code ⟨"DearVotes$House", "costOf", "(I)I"⟩ prog_3_method_6_code 4 (Option.some Jvm.ClassFile.FieldType.int) ∈ hx_ws := List.mem_filter.mpr ⟨List.mem_of_getElem? (i := 240) (by decide +kernel), rfl⟩
theorem tb_241 : Cond.methodLink "DearVotesLaw" 36 ⟨"DearVotes", "worth", "(III)I"⟩ ∈ hx_ws := List.mem_filter.mpr ⟨List.mem_of_getElem? (i := 241) (by decide +kernel), rfl⟩
theorem tb_242 : Cond.instanceMethod ⟨"DearVotes", "worth", "(III)I"⟩ ∈ hx_ws := List.mem_filter.mpr ⟨List.mem_of_getElem? (i := 242) (by decide +kernel), rfl⟩
theorem tb_243 : Cond.selects "DearVotes" ⟨"DearVotes", "worth", "(III)I"⟩ ⟨"DearVotes", "worth", "(III)I"⟩ ∈ hx_ws := List.mem_filter.mpr ⟨List.mem_of_getElem? (i := 243) (by decide +kernel), rfl⟩
theorem tb_244 : Cond.code ⟨"DearVotes", "worth", "(III)I"⟩ prog_1_method_7_code 5 (Option.some Jvm.ClassFile.FieldType.int) ∈ hx_ws := List.mem_filter.mpr ⟨List.mem_of_getElem? (i := 244) (by decide +kernel), rfl⟩
theorem tb_245 : Cond.methodLink "DearVotesLaw" 40 ⟨"DearVotes", "here", "(IZ)I"⟩ ∈ hx_ws := List.mem_filter.mpr ⟨List.mem_of_getElem? (i := 245) (by decide +kernel), rfl⟩
theorem tb_246 : Cond.instanceMethod ⟨"DearVotes", "here", "(IZ)I"⟩ ∈ hx_ws := List.mem_filter.mpr ⟨List.mem_of_getElem? (i := 246) (by decide +kernel), rfl⟩
theorem tb_247 : Cond.selects "DearVotes" ⟨"DearVotes", "here", "(IZ)I"⟩ ⟨"DearVotes", "here", "(IZ)I"⟩ ∈ hx_ws := List.mem_filter.mpr ⟨List.mem_of_getElem? (i := 247) (by decide +kernel), rfl⟩
theorem tb_248 : Cond.code ⟨"DearVotes", "here", "(IZ)I"⟩ prog_1_method_8_code 4 (Option.some Jvm.ClassFile.FieldType.int) ∈ hx_ws := List.mem_filter.mpr ⟨List.mem_of_getElem? (i := 248) (by decide +kernel), rfl⟩
theorem tb_249 : Cond.methodLink "DearVotesLaw" 45 ⟨"DearVotes", "voices", "(II)I"⟩ ∈ hx_ws := List.mem_filter.mpr ⟨List.mem_of_getElem? (i := 249) (by decide +kernel), rfl⟩
theorem tb_250 : Cond.instanceMethod ⟨"DearVotes", "voices", "(II)I"⟩ ∈ hx_ws := List.mem_filter.mpr ⟨List.mem_of_getElem? (i := 250) (by decide +kernel), rfl⟩
theorem tb_251 : Cond.selects "DearVotes" ⟨"DearVotes", "voices", "(II)I"⟩ ⟨"DearVotes", "voices", "(II)I"⟩ ∈ hx_ws := List.mem_filter.mpr ⟨List.mem_of_getElem? (i := 251) (by decide +kernel), rfl⟩
theorem tb_252 : Cond.code ⟨"DearVotes", "voices", "(II)I"⟩ prog_1_method_9_code 3 (Option.some Jvm.ClassFile.FieldType.int) ∈ hx_ws := List.mem_filter.mpr ⟨List.mem_of_getElem? (i := 252) (by decide +kernel), rfl⟩
theorem tb_253 : Cond.methodLink "DearVotesLaw" 50 ⟨"DearVotes", "cost", "(I)I"⟩ ∈ hx_ws := List.mem_filter.mpr ⟨List.mem_of_getElem? (i := 253) (by decide +kernel), rfl⟩
theorem tb_254 : Cond.instanceMethod ⟨"DearVotes", "cost", "(I)I"⟩ ∈ hx_ws := List.mem_filter.mpr ⟨List.mem_of_getElem? (i := 254) (by decide +kernel), rfl⟩
theorem tb_255 : Cond.selects "DearVotes" ⟨"DearVotes", "cost", "(I)I"⟩ ⟨"DearVotes", "cost", "(I)I"⟩ ∈ hx_ws := List.mem_filter.mpr ⟨List.mem_of_getElem? (i := 255) (by decide +kernel), rfl⟩
theorem tb_256 : Cond.code ⟨"DearVotes", "cost", "(I)I"⟩ prog_1_method_10_code 2 (Option.some Jvm.ClassFile.FieldType.int) ∈ hx_ws := List.mem_filter.mpr ⟨List.mem_of_getElem? (i := 256) (by decide +kernel), rfl⟩
theorem tb_257 : Cond.methodLink "DearVotesLaw" 54 ⟨"DearVotes", "total", "(I)I"⟩ ∈ hx_ws := List.mem_filter.mpr ⟨List.mem_of_getElem? (i := 257) (by decide +kernel), rfl⟩
theorem tb_258 : Cond.instanceMethod ⟨"DearVotes", "total", "(I)I"⟩ ∈ hx_ws := List.mem_filter.mpr ⟨List.mem_of_getElem? (i := 258) (by decide +kernel), rfl⟩
theorem tb_259 : Cond.selects "DearVotes" ⟨"DearVotes", "total", "(I)I"⟩ ⟨"DearVotes", "total", "(I)I"⟩ ∈ hx_ws := List.mem_filter.mpr ⟨List.mem_of_getElem? (i := 259) (by decide +kernel), rfl⟩
theorem tb_260 : Cond.code ⟨"DearVotes", "total", "(I)I"⟩ prog_1_method_11_code 2 (Option.some Jvm.ClassFile.FieldType.int) ∈ hx_ws := List.mem_filter.mpr ⟨List.mem_of_getElem? (i := 260) (by decide +kernel), rfl⟩
theorem tb_261 : Cond.methodLink "DearVotes" 87 ⟨"DearVotes$House", "countOf", "(I)I"⟩ ∈ hx_ws := List.mem_filter.mpr ⟨List.mem_of_getElem? (i := 261) (by decide +kernel), rfl⟩
theorem tb_262 : Cond.instanceMethod ⟨"DearVotes$House", "countOf", "(I)I"⟩ ∈ hx_ws := List.mem_filter.mpr ⟨List.mem_of_getElem? (i := 262) (by decide +kernel), rfl⟩
theorem tb_263 : Cond.selects "DearVotes$House" ⟨"DearVotes$House", "countOf", "(I)I"⟩ ⟨"DearVotes$House", "countOf", "(I)I"⟩ ∈ hx_ws := List.mem_filter.mpr ⟨List.mem_of_getElem? (i := 263) (by decide +kernel), rfl⟩
theorem tb_264 : Cond.code ⟨"DearVotes$House", "countOf", "(I)I"⟩ prog_3_method_7_code 4 (Option.some Jvm.ClassFile.FieldType.int) ∈ hx_ws := List.mem_filter.mpr ⟨List.mem_of_getElem? (i := 264) (by decide +kernel), rfl⟩
theorem tb_265 : Cond.methodLink "DearVotesLaw" 58 ⟨"DearVotes", "result", "(I)I"⟩ ∈ hx_ws := List.mem_filter.mpr ⟨List.mem_of_getElem? (i := 265) (by decide +kernel), rfl⟩
theorem tb_266 : Cond.instanceMethod ⟨"DearVotes", "result", "(I)I"⟩ ∈ hx_ws := List.mem_filter.mpr ⟨List.mem_of_getElem? (i := 266) (by decide +kernel), rfl⟩
theorem tb_267 : Cond.selects "DearVotes" ⟨"DearVotes", "result", "(I)I"⟩ ⟨"DearVotes", "result", "(I)I"⟩ ∈ hx_ws := List.mem_filter.mpr ⟨List.mem_of_getElem? (i := 267) (by decide +kernel), rfl⟩
theorem tb_268 : Cond.code ⟨"DearVotes", "result", "(I)I"⟩ prog_1_method_12_code 2 (Option.some Jvm.ClassFile.FieldType.int) ∈ hx_ws := List.mem_filter.mpr ⟨List.mem_of_getElem? (i := 268) (by decide +kernel), rfl⟩
theorem tb_269 : Cond.methodLink "DearVotes" 90 ⟨"DearVotes$House", "resultOf", "(II)I"⟩ ∈ hx_ws := List.mem_filter.mpr ⟨List.mem_of_getElem? (i := 269) (by decide +kernel), rfl⟩
theorem tb_270 : Cond.instanceMethod ⟨"DearVotes$House", "resultOf", "(II)I"⟩ ∈ hx_ws := List.mem_filter.mpr ⟨List.mem_of_getElem? (i := 270) (by decide +kernel), rfl⟩
theorem tb_271 : Cond.selects "DearVotes$House" ⟨"DearVotes$House", "resultOf", "(II)I"⟩ ⟨"DearVotes$House", "resultOf", "(II)I"⟩ ∈ hx_ws := List.mem_filter.mpr ⟨List.mem_of_getElem? (i := 271) (by decide +kernel), rfl⟩
theorem tb_272 : Cond.code ⟨"DearVotes$House", "resultOf", "(II)I"⟩ prog_3_method_9_code 5 (Option.some Jvm.ClassFile.FieldType.int) ∈ hx_ws := List.mem_filter.mpr ⟨List.mem_of_getElem? (i := 272) (by decide +kernel), rfl⟩
theorem tb_273 : Cond.constant "DearVotes$House" 41 1664525 ∈ hx_ws := List.mem_filter.mpr ⟨List.mem_of_getElem? (i := 273) (by decide +kernel), rfl⟩
theorem tb_274 : Cond.constant "DearVotes$House" 42 1013904223 ∈ hx_ws := List.mem_filter.mpr ⟨List.mem_of_getElem? (i := 274) (by decide +kernel), rfl⟩
theorem tb_275 : Cond.methodLink "DearVotesLaw" 62 ⟨"DearVotes", "gain", "(I)I"⟩ ∈ hx_ws := List.mem_filter.mpr ⟨List.mem_of_getElem? (i := 275) (by decide +kernel), rfl⟩
theorem tb_276 : Cond.instanceMethod ⟨"DearVotes", "gain", "(I)I"⟩ ∈ hx_ws := List.mem_filter.mpr ⟨List.mem_of_getElem? (i := 276) (by decide +kernel), rfl⟩
theorem tb_277 : Cond.selects "DearVotes" ⟨"DearVotes", "gain", "(I)I"⟩ ⟨"DearVotes", "gain", "(I)I"⟩ ∈ hx_ws := List.mem_filter.mpr ⟨List.mem_of_getElem? (i := 277) (by decide +kernel), rfl⟩
theorem tb_278 : Cond.code ⟨"DearVotes", "gain", "(I)I"⟩ prog_1_method_13_code 2 (Option.some Jvm.ClassFile.FieldType.int) ∈ hx_ws := List.mem_filter.mpr ⟨List.mem_of_getElem? (i := 278) (by decide +kernel), rfl⟩
theorem tb_279 : Cond.constant "DearVotes" 94 (-2000000) ∈ hx_ws := List.mem_filter.mpr ⟨List.mem_of_getElem? (i := 279) (by decide +kernel), rfl⟩
theorem tb_280 : Cond.methodLink "DearVotes" 95 ⟨"DearVotes$House", "gainOf", "(I)I"⟩ ∈ hx_ws := List.mem_filter.mpr ⟨List.mem_of_getElem? (i := 280) (by decide +kernel), rfl⟩
theorem tb_281 : Cond.instanceMethod ⟨"DearVotes$House", "gainOf", "(I)I"⟩ ∈ hx_ws := List.mem_filter.mpr ⟨List.mem_of_getElem? (i := 281) (by decide +kernel), rfl⟩
theorem tb_282 : Cond.selects "DearVotes$House" ⟨"DearVotes$House", "gainOf", "(I)I"⟩ ⟨"DearVotes$House", "gainOf", "(I)I"⟩ ∈ hx_ws := List.mem_filter.mpr ⟨List.mem_of_getElem? (i := 282) (by decide +kernel), rfl⟩
theorem tb_283 : Cond.code ⟨"DearVotes$House", "gainOf", "(I)I"⟩ prog_3_method_10_code 4 (Option.some Jvm.ClassFile.FieldType.int) ∈ hx_ws := List.mem_filter.mpr ⟨List.mem_of_getElem? (i := 283) (by decide +kernel), rfl⟩
theorem tb_284 : Cond.methodLink "DearVotes$House" 34 ⟨"DearVotes$House", "countOf", "(I)I"⟩ ∈ hx_ws := List.mem_filter.mpr ⟨List.mem_of_getElem? (i := 284) (by decide +kernel), rfl⟩
theorem tb_285 : Cond.methodLink "DearVotes$House" 43 ⟨"DearVotes$House", "gainBy", "(II)I"⟩ ∈ hx_ws := List.mem_filter.mpr ⟨List.mem_of_getElem? (i := 285) (by decide +kernel), rfl⟩
theorem tb_286 : Cond.static ⟨"DearVotes$House", "gainBy", "(II)I"⟩ ∈ hx_ws := List.mem_filter.mpr ⟨List.mem_of_getElem? (i := 286) (by decide +kernel), rfl⟩
theorem tb_287 : Cond.code ⟨"DearVotes$House", "gainBy", "(II)I"⟩ prog_3_method_11_code 2 (Option.some Jvm.ClassFile.FieldType.int) ∈ hx_ws := List.mem_filter.mpr ⟨List.mem_of_getElem? (i := 287) (by decide +kernel), rfl⟩
theorem tb_288 : Cond.methodLink "DearVotesLaw" 66 ⟨"DearVotes", "swings", "(I)I"⟩ ∈ hx_ws := List.mem_filter.mpr ⟨List.mem_of_getElem? (i := 288) (by decide +kernel), rfl⟩
theorem tb_289 : Cond.instanceMethod ⟨"DearVotes", "swings", "(I)I"⟩ ∈ hx_ws := List.mem_filter.mpr ⟨List.mem_of_getElem? (i := 289) (by decide +kernel), rfl⟩
theorem tb_290 : Cond.selects "DearVotes" ⟨"DearVotes", "swings", "(I)I"⟩ ⟨"DearVotes", "swings", "(I)I"⟩ ∈ hx_ws := List.mem_filter.mpr ⟨List.mem_of_getElem? (i := 290) (by decide +kernel), rfl⟩
theorem tb_291 : Cond.code ⟨"DearVotes", "swings", "(I)I"⟩ prog_1_method_14_code 2 (Option.some Jvm.ClassFile.FieldType.int) ∈ hx_ws := List.mem_filter.mpr ⟨List.mem_of_getElem? (i := 291) (by decide +kernel), rfl⟩
theorem tb_292 : Cond.methodLink "DearVotes" 98 ⟨"DearVotes$House", "swingsOf", "(I)I"⟩ ∈ hx_ws := List.mem_filter.mpr ⟨List.mem_of_getElem? (i := 292) (by decide +kernel), rfl⟩
theorem tb_293 : Cond.instanceMethod ⟨"DearVotes$House", "swingsOf", "(I)I"⟩ ∈ hx_ws := List.mem_filter.mpr ⟨List.mem_of_getElem? (i := 293) (by decide +kernel), rfl⟩
theorem tb_294 : Cond.selects "DearVotes$House" ⟨"DearVotes$House", "swingsOf", "(I)I"⟩ ⟨"DearVotes$House", "swingsOf", "(I)I"⟩ ∈ hx_ws := List.mem_filter.mpr ⟨List.mem_of_getElem? (i := 294) (by decide +kernel), rfl⟩
theorem tb_295 : Cond.code ⟨"DearVotes$House", "swingsOf", "(I)I"⟩ prog_3_method_12_code 5 (Option.some Jvm.ClassFile.FieldType.int) ∈ hx_ws := List.mem_filter.mpr ⟨List.mem_of_getElem? (i := 295) (by decide +kernel), rfl⟩
theorem tb_296 : Cond.methodLink "DearVotes$House" 47 ⟨"DearVotes$House", "countWithout", "(II)I"⟩ ∈ hx_ws := List.mem_filter.mpr ⟨List.mem_of_getElem? (i := 296) (by decide +kernel), rfl⟩
theorem tb_297 : Cond.instanceMethod ⟨"DearVotes$House", "countWithout", "(II)I"⟩ ∈ hx_ws := List.mem_filter.mpr ⟨List.mem_of_getElem? (i := 297) (by decide +kernel), rfl⟩
theorem tb_298 : Cond.selects "DearVotes$House" ⟨"DearVotes$House", "countWithout", "(II)I"⟩ ⟨"DearVotes$House", "countWithout", "(II)I"⟩ ∈ hx_ws := List.mem_filter.mpr ⟨List.mem_of_getElem? (i := 298) (by decide +kernel), rfl⟩
theorem tb_299 : Cond.code ⟨"DearVotes$House", "countWithout", "(II)I"⟩ prog_3_method_8_code 4 (Option.some Jvm.ClassFile.FieldType.int) ∈ hx_ws := List.mem_filter.mpr ⟨List.mem_of_getElem? (i := 299) (by decide +kernel), rfl⟩
theorem tb_300 : Cond.methodLink "DearVotes$House" 50 ⟨"DearVotes$House", "resultOf", "(II)I"⟩ ∈ hx_ws := List.mem_filter.mpr ⟨List.mem_of_getElem? (i := 300) (by decide +kernel), rfl⟩
theorem tb_301 : Cond.methodLink "DearVotesLaw" 70 ⟨"DearVotes", "best", "(I)I"⟩ ∈ hx_ws := List.mem_filter.mpr ⟨List.mem_of_getElem? (i := 301) (by decide +kernel), rfl⟩
theorem tb_302 : Cond.instanceMethod ⟨"DearVotes", "best", "(I)I"⟩ ∈ hx_ws := List.mem_filter.mpr ⟨List.mem_of_getElem? (i := 302) (by decide +kernel), rfl⟩
theorem tb_303 : Cond.selects "DearVotes" ⟨"DearVotes", "best", "(I)I"⟩ ⟨"DearVotes", "best", "(I)I"⟩ ∈ hx_ws := List.mem_filter.mpr ⟨List.mem_of_getElem? (i := 303) (by decide +kernel), rfl⟩
theorem tb_304 : Cond.code ⟨"DearVotes", "best", "(I)I"⟩ prog_1_method_15_code 2 (Option.some Jvm.ClassFile.FieldType.int) ∈ hx_ws := List.mem_filter.mpr ⟨List.mem_of_getElem? (i := 304) (by decide +kernel), rfl⟩
theorem tb_305 : Cond.methodLink "DearVotes" 101 ⟨"DearVotes$Search", "findFor", "(I)V"⟩ ∈ hx_ws := List.mem_filter.mpr ⟨List.mem_of_getElem? (i := 305) (by decide +kernel), rfl⟩
theorem tb_306 : Cond.instanceMethod ⟨"DearVotes$Search", "findFor", "(I)V"⟩ ∈ hx_ws := List.mem_filter.mpr ⟨List.mem_of_getElem? (i := 306) (by decide +kernel), rfl⟩
theorem tb_307 : Cond.selects "DearVotes$Search" ⟨"DearVotes$Search", "findFor", "(I)V"⟩ ⟨"DearVotes$Search", "findFor", "(I)V"⟩ ∈ hx_ws := List.mem_filter.mpr ⟨List.mem_of_getElem? (i := 307) (by decide +kernel), rfl⟩
theorem tb_308 : Cond.code ⟨"DearVotes$Search", "findFor", "(I)V"⟩ prog_5_method_2_code 3 (Option.none : Option Jvm.ClassFile.FieldType) ∈ hx_ws := List.mem_filter.mpr ⟨List.mem_of_getElem? (i := 308) (by decide +kernel), rfl⟩
theorem tb_309 : Cond.constant "DearVotes$Search" 45 (-1000000) ∈ hx_ws := List.mem_filter.mpr ⟨List.mem_of_getElem? (i := 309) (by decide +kernel), rfl⟩
theorem tb_310 : Cond.methodLink "DearVotes$Search" 55 ⟨"DearVotes$House", "countWithout", "(II)I"⟩ ∈ hx_ws := List.mem_filter.mpr ⟨List.mem_of_getElem? (i := 310) (by decide +kernel), rfl⟩
theorem tb_311 : Cond.methodLink "DearVotes$Search" 62 ⟨"DearVotes$Search", "listChoices", "(III)V"⟩ ∈ hx_ws := List.mem_filter.mpr ⟨List.mem_of_getElem? (i := 311) (by decide +kernel), rfl⟩
theorem tb_312 : Cond.privateMethod ⟨"DearVotes$Search", "listChoices", "(III)V"⟩ ∈ lw_tbl := List.mem_of_getElem? (i := 312) (by decide +kernel)
theorem tb_313 : Cond.instanceMethod ⟨"DearVotes$Search", "listChoices", "(III)V"⟩ ∈ hx_ws := List.mem_filter.mpr ⟨List.mem_of_getElem? (i := 313) (by decide +kernel), rfl⟩
theorem tb_314 : Cond.code ⟨"DearVotes$Search", "listChoices", "(III)V"⟩ prog_5_method_4_code 6 (Option.none : Option Jvm.ClassFile.FieldType) ∈ hx_ws := List.mem_filter.mpr ⟨List.mem_of_getElem? (i := 314) (by decide +kernel), rfl⟩
theorem tb_315 : Cond.methodLink "DearVotes$Search" 79 ⟨"DearVotes$House", "gainBy", "(II)I"⟩ ∈ hx_ws := List.mem_filter.mpr ⟨List.mem_of_getElem? (i := 315) (by decide +kernel), rfl⟩
theorem tb_316 : Cond.methodLink "DearVotes$Search" 82 ⟨"DearVotes$Search", "addChoice", "(III)V"⟩ ∈ hx_ws := List.mem_filter.mpr ⟨List.mem_of_getElem? (i := 316) (by decide +kernel), rfl⟩
theorem tb_317 : Cond.privateMethod ⟨"DearVotes$Search", "addChoice", "(III)V"⟩ ∈ lw_tbl := List.mem_of_getElem? (i := 317) (by decide +kernel)
theorem tb_318 : Cond.instanceMethod ⟨"DearVotes$Search", "addChoice", "(III)V"⟩ ∈ hx_ws := List.mem_filter.mpr ⟨List.mem_of_getElem? (i := 318) (by decide +kernel), rfl⟩
theorem tb_319 : Cond.code ⟨"DearVotes$Search", "addChoice", "(III)V"⟩ prog_5_method_5_code 5 (Option.none : Option Jvm.ClassFile.FieldType) ∈ hx_ws := List.mem_filter.mpr ⟨List.mem_of_getElem? (i := 319) (by decide +kernel), rfl⟩
theorem tb_320 : Cond.methodLink "DearVotes$Search" 66 ⟨"DearVotes$Search", "tryFrom", "(LDearVotes$Search;III)V"⟩ ∈ hx_ws := List.mem_filter.mpr ⟨List.mem_of_getElem? (i := 320) (by decide +kernel), rfl⟩
theorem tb_321 : Cond.static ⟨"DearVotes$Search", "tryFrom", "(LDearVotes$Search;III)V"⟩ ∈ hx_ws := List.mem_filter.mpr ⟨List.mem_of_getElem? (i := 321) (by decide +kernel), rfl⟩
theorem tb_322 : Cond.code ⟨"DearVotes$Search", "tryFrom", "(LDearVotes$Search;III)V"⟩ prog_5_method_6_code 7 (Option.none : Option Jvm.ClassFile.FieldType) ∈ hx_ws := List.mem_filter.mpr ⟨List.mem_of_getElem? (i := 322) (by decide +kernel), rfl⟩
theorem tb_323 : Cond.methodLink "DearVotes$Search" 85 ⟨"DearVotes$Search", "keepIfBetter", "(II)V"⟩ ∈ hx_ws := List.mem_filter.mpr ⟨List.mem_of_getElem? (i := 323) (by decide +kernel), rfl⟩
theorem tb_324 : Cond.privateMethod ⟨"DearVotes$Search", "keepIfBetter", "(II)V"⟩ ∈ lw_tbl := List.mem_of_getElem? (i := 324) (by decide +kernel)
theorem tb_325 : Cond.instanceMethod ⟨"DearVotes$Search", "keepIfBetter", "(II)V"⟩ ∈ hx_ws := List.mem_filter.mpr ⟨List.mem_of_getElem? (i := 325) (by decide +kernel), rfl⟩
theorem tb_326 : Cond.code ⟨"DearVotes$Search", "keepIfBetter", "(II)V"⟩ prog_5_method_7_code 3 (Option.none : Option Jvm.ClassFile.FieldType) ∈ hx_ws := List.mem_filter.mpr ⟨List.mem_of_getElem? (i := 326) (by decide +kernel), rfl⟩
theorem tb_327 : Cond.methodLink "DearVotes$Search" 89 ⟨"DearVotes$Search", "triedIsLess", "()Z"⟩ ∈ hx_ws := List.mem_filter.mpr ⟨List.mem_of_getElem? (i := 327) (by decide +kernel), rfl⟩
theorem tb_328 : Cond.privateMethod ⟨"DearVotes$Search", "triedIsLess", "()Z"⟩ ∈ lw_tbl := List.mem_of_getElem? (i := 328) (by decide +kernel)
theorem tb_329 : Cond.instanceMethod ⟨"DearVotes$Search", "triedIsLess", "()Z"⟩ ∈ hx_ws := List.mem_filter.mpr ⟨List.mem_of_getElem? (i := 329) (by decide +kernel), rfl⟩
theorem tb_330 : Cond.code ⟨"DearVotes$Search", "triedIsLess", "()Z"⟩ prog_5_method_8_code 2 (Option.some Jvm.ClassFile.FieldType.boolean) ∈ hx_ws := List.mem_filter.mpr ⟨List.mem_of_getElem? (i := 330) (by decide +kernel), rfl⟩
theorem tb_331 : Cond.methodLink "DearVotes$Search" 73 ⟨"java/lang/System", "arraycopy", "(Ljava/lang/Object;ILjava/lang/Object;II)V"⟩ ∈ hx_ws := List.mem_filter.mpr ⟨List.mem_of_getElem? (i := 331) (by decide +kernel), rfl⟩
theorem tb_332 : Cond.static ⟨"java/lang/System", "arraycopy", "(Ljava/lang/Object;ILjava/lang/Object;II)V"⟩ ∈ hx_ws := List.mem_filter.mpr ⟨List.mem_of_getElem? (i := 332) (by decide +kernel), rfl⟩
theorem tb_333 : Cond.native ⟨"java/lang/System", "arraycopy", "(Ljava/lang/Object;ILjava/lang/Object;II)V"⟩ ∈ hx_ws := List.mem_filter.mpr ⟨List.mem_of_getElem? (i := 333) (by decide +kernel), rfl⟩
theorem tb_334 : Cond.methodLink "DearVotesLaw" 74 ⟨"DearVotes", "answer", "(II)I"⟩ ∈ hx_ws := List.mem_filter.mpr ⟨List.mem_of_getElem? (i := 334) (by decide +kernel), rfl⟩
theorem tb_335 : Cond.instanceMethod ⟨"DearVotes", "answer", "(II)I"⟩ ∈ hx_ws := List.mem_filter.mpr ⟨List.mem_of_getElem? (i := 335) (by decide +kernel), rfl⟩
theorem tb_336 : Cond.selects "DearVotes" ⟨"DearVotes", "answer", "(II)I"⟩ ⟨"DearVotes", "answer", "(II)I"⟩ ∈ hx_ws := List.mem_filter.mpr ⟨List.mem_of_getElem? (i := 336) (by decide +kernel), rfl⟩
theorem tb_337 : Cond.code ⟨"DearVotes", "answer", "(II)I"⟩ prog_1_method_16_code 3 (Option.some Jvm.ClassFile.FieldType.int) ∈ hx_ws := List.mem_filter.mpr ⟨List.mem_of_getElem? (i := 337) (by decide +kernel), rfl⟩
theorem tb_338 : Cond.methodLink "DearVotesLaw" 78 ⟨"DearVotes", "take", "(I)I"⟩ ∈ hx_ws := List.mem_filter.mpr ⟨List.mem_of_getElem? (i := 338) (by decide +kernel), rfl⟩
theorem tb_339 : Cond.instanceMethod ⟨"DearVotes", "take", "(I)I"⟩ ∈ hx_ws := List.mem_filter.mpr ⟨List.mem_of_getElem? (i := 339) (by decide +kernel), rfl⟩
theorem tb_340 : Cond.selects "DearVotes" ⟨"DearVotes", "take", "(I)I"⟩ ⟨"DearVotes", "take", "(I)I"⟩ ∈ hx_ws := List.mem_filter.mpr ⟨List.mem_of_getElem? (i := 340) (by decide +kernel), rfl⟩
theorem tb_341 : Cond.code ⟨"DearVotes", "take", "(I)I"⟩ prog_1_method_17_code 2 (Option.some Jvm.ClassFile.FieldType.int) ∈ hx_ws := List.mem_filter.mpr ⟨List.mem_of_getElem? (i := 341) (by decide +kernel), rfl⟩
theorem tb_342 : Cond.methodLink "DearVotes" 111 ⟨"DearVotes$Search", "giveTo", "(I)V"⟩ ∈ hx_ws := List.mem_filter.mpr ⟨List.mem_of_getElem? (i := 342) (by decide +kernel), rfl⟩
theorem tb_343 : Cond.instanceMethod ⟨"DearVotes$Search", "giveTo", "(I)V"⟩ ∈ hx_ws := List.mem_filter.mpr ⟨List.mem_of_getElem? (i := 343) (by decide +kernel), rfl⟩
theorem tb_344 : Cond.selects "DearVotes$Search" ⟨"DearVotes$Search", "giveTo", "(I)V"⟩ ⟨"DearVotes$Search", "giveTo", "(I)V"⟩ ∈ hx_ws := List.mem_filter.mpr ⟨List.mem_of_getElem? (i := 344) (by decide +kernel), rfl⟩
theorem tb_345 : Cond.code ⟨"DearVotes$Search", "giveTo", "(I)V"⟩ prog_5_method_3_code 2 (Option.none : Option Jvm.ClassFile.FieldType) ∈ hx_ws := List.mem_filter.mpr ⟨List.mem_of_getElem? (i := 345) (by decide +kernel), rfl⟩
theorem tb_346 : Cond.methodLink "DearVotesLaw" 82 ⟨"DearVotes", "play", "(I)I"⟩ ∈ hx_ws := List.mem_filter.mpr ⟨List.mem_of_getElem? (i := 346) (by decide +kernel), rfl⟩
theorem tb_347 : Cond.instanceMethod ⟨"DearVotes", "play", "(I)I"⟩ ∈ hx_ws := List.mem_filter.mpr ⟨List.mem_of_getElem? (i := 347) (by decide +kernel), rfl⟩
theorem tb_348 : Cond.selects "DearVotes" ⟨"DearVotes", "play", "(I)I"⟩ ⟨"DearVotes", "play", "(I)I"⟩ ∈ hx_ws := List.mem_filter.mpr ⟨List.mem_of_getElem? (i := 348) (by decide +kernel), rfl⟩
theorem tb_349 : Cond.code ⟨"DearVotes", "play", "(I)I"⟩ prog_1_method_18_code 2 (Option.some Jvm.ClassFile.FieldType.int) ∈ hx_ws := List.mem_filter.mpr ⟨List.mem_of_getElem? (i := 349) (by decide +kernel), rfl⟩
theorem tb_350 : Cond.methodLink "DearVotes" 114 ⟨"DearVotes$Rounds", "playAtMost", "(I)I"⟩ ∈ hx_ws := List.mem_filter.mpr ⟨List.mem_of_getElem? (i := 350) (by decide +kernel), rfl⟩
theorem tb_351 : Cond.instanceMethod ⟨"DearVotes$Rounds", "playAtMost", "(I)I"⟩ ∈ hx_ws := List.mem_filter.mpr ⟨List.mem_of_getElem? (i := 351) (by decide +kernel), rfl⟩
theorem tb_352 : Cond.selects "DearVotes$Rounds" ⟨"DearVotes$Rounds", "playAtMost", "(I)I"⟩ ⟨"DearVotes$Rounds", "playAtMost", "(I)I"⟩ ∈ hx_ws := List.mem_filter.mpr ⟨List.mem_of_getElem? (i := 352) (by decide +kernel), rfl⟩
theorem tb_353 : Cond.code ⟨"DearVotes$Rounds", "playAtMost", "(I)I"⟩ prog_4_method_2_code 4 (Option.some Jvm.ClassFile.FieldType.int) ∈ hx_ws := List.mem_filter.mpr ⟨List.mem_of_getElem? (i := 353) (by decide +kernel), rfl⟩
theorem tb_354 : Cond.methodLink "DearVotes$Rounds" 31 ⟨"DearVotes$Rounds", "noteVoices", "(I)V"⟩ ∈ hx_ws := List.mem_filter.mpr ⟨List.mem_of_getElem? (i := 354) (by decide +kernel), rfl⟩
theorem tb_355 : Cond.privateMethod ⟨"DearVotes$Rounds", "noteVoices", "(I)V"⟩ ∈ lw_tbl := List.mem_of_getElem? (i := 355) (by decide +kernel)
theorem tb_356 : Cond.instanceMethod ⟨"DearVotes$Rounds", "noteVoices", "(I)V"⟩ ∈ hx_ws := List.mem_filter.mpr ⟨List.mem_of_getElem? (i := 356) (by decide +kernel), rfl⟩
theorem tb_357 : Cond.code ⟨"DearVotes$Rounds", "noteVoices", "(I)V"⟩ prog_4_method_4_code 3 (Option.none : Option Jvm.ClassFile.FieldType) ∈ hx_ws := List.mem_filter.mpr ⟨List.mem_of_getElem? (i := 357) (by decide +kernel), rfl⟩
theorem tb_358 : Cond.methodLink "DearVotes$Rounds" 73 ⟨"DearVotes$House", "voicesInOne", "(I)J"⟩ ∈ hx_ws := List.mem_filter.mpr ⟨List.mem_of_getElem? (i := 358) (by decide +kernel), rfl⟩
theorem tb_359 : Cond.instanceMethod ⟨"DearVotes$House", "voicesInOne", "(I)J"⟩ ∈ hx_ws := List.mem_filter.mpr ⟨List.mem_of_getElem? (i := 359) (by decide +kernel), rfl⟩
theorem tb_360 : Cond.selects "DearVotes$House" ⟨"DearVotes$House", "voicesInOne", "(I)J"⟩ ⟨"DearVotes$House", "voicesInOne", "(I)J"⟩ ∈ hx_ws := List.mem_filter.mpr ⟨List.mem_of_getElem? (i := 360) (by decide +kernel), rfl⟩
theorem tb_361 : Cond.code ⟨"DearVotes$House", "voicesInOne", "(I)J"⟩ prog_3_method_16_code 5 (Option.some Jvm.ClassFile.FieldType.long) ∈ hx_ws := List.mem_filter.mpr ⟨List.mem_of_getElem? (i := 361) (by decide +kernel), rfl⟩
theorem tb_362 : Cond.constantLong "DearVotes$House" 64 81 ∈ hx_ws := List.mem_filter.mpr ⟨List.mem_of_getElem? (i := 362) (by decide +kernel), rfl⟩
theorem tb_363 : Cond.constantLong "DearVotes$House" 66 40 ∈ hx_ws := List.mem_filter.mpr ⟨List.mem_of_getElem? (i := 363) (by decide +kernel), rfl⟩
theorem tb_364 : Cond.methodLink "DearVotes$Rounds" 35 ⟨"DearVotes$Rounds", "doRound", "()I"⟩ ∈ hx_ws := List.mem_filter.mpr ⟨List.mem_of_getElem? (i := 364) (by decide +kernel), rfl⟩
theorem tb_365 : Cond.privateMethod ⟨"DearVotes$Rounds", "doRound", "()I"⟩ ∈ lw_tbl := List.mem_of_getElem? (i := 365) (by decide +kernel)
theorem tb_366 : Cond.instanceMethod ⟨"DearVotes$Rounds", "doRound", "()I"⟩ ∈ hx_ws := List.mem_filter.mpr ⟨List.mem_of_getElem? (i := 366) (by decide +kernel), rfl⟩
theorem tb_367 : Cond.code ⟨"DearVotes$Rounds", "doRound", "()I"⟩ prog_4_method_3_code 3 (Option.some Jvm.ClassFile.FieldType.int) ∈ hx_ws := List.mem_filter.mpr ⟨List.mem_of_getElem? (i := 367) (by decide +kernel), rfl⟩
theorem tb_368 : Cond.methodLink "DearVotes$Rounds" 58 ⟨"DearVotes$Search", "findFor", "(I)V"⟩ ∈ hx_ws := List.mem_filter.mpr ⟨List.mem_of_getElem? (i := 368) (by decide +kernel), rfl⟩
theorem tb_369 : Cond.methodLink "DearVotes$Rounds" 66 ⟨"DearVotes$House", "gainOf", "(I)I"⟩ ∈ hx_ws := List.mem_filter.mpr ⟨List.mem_of_getElem? (i := 369) (by decide +kernel), rfl⟩
theorem tb_370 : Cond.methodLink "DearVotes$Rounds" 70 ⟨"DearVotes$Search", "giveTo", "(I)V"⟩ ∈ hx_ws := List.mem_filter.mpr ⟨List.mem_of_getElem? (i := 370) (by decide +kernel), rfl⟩
theorem tb_371 : Cond.methodLink "DearVotes$Rounds" 45 ⟨"DearVotes$Rounds", "judge", "(II)V"⟩ ∈ hx_ws := List.mem_filter.mpr ⟨List.mem_of_getElem? (i := 371) (by decide +kernel), rfl⟩
theorem tb_372 : Cond.privateMethod ⟨"DearVotes$Rounds", "judge", "(II)V"⟩ ∈ lw_tbl := List.mem_of_getElem? (i := 372) (by decide +kernel)
theorem tb_373 : Cond.instanceMethod ⟨"DearVotes$Rounds", "judge", "(II)V"⟩ ∈ hx_ws := List.mem_filter.mpr ⟨List.mem_of_getElem? (i := 373) (by decide +kernel), rfl⟩
theorem tb_374 : Cond.code ⟨"DearVotes$Rounds", "judge", "(II)V"⟩ prog_4_method_5_code 4 (Option.none : Option Jvm.ClassFile.FieldType) ∈ hx_ws := List.mem_filter.mpr ⟨List.mem_of_getElem? (i := 374) (by decide +kernel), rfl⟩
theorem tb_375 : Cond.methodLink "DearVotes$Rounds" 77 ⟨"DearVotes$Rounds", "isSameTrail", "(II)Z"⟩ ∈ hx_ws := List.mem_filter.mpr ⟨List.mem_of_getElem? (i := 375) (by decide +kernel), rfl⟩
theorem tb_376 : Cond.privateMethod ⟨"DearVotes$Rounds", "isSameTrail", "(II)Z"⟩ ∈ lw_tbl := List.mem_of_getElem? (i := 376) (by decide +kernel)
theorem tb_377 : Cond.instanceMethod ⟨"DearVotes$Rounds", "isSameTrail", "(II)Z"⟩ ∈ hx_ws := List.mem_filter.mpr ⟨List.mem_of_getElem? (i := 377) (by decide +kernel), rfl⟩
theorem tb_378 : Cond.code ⟨"DearVotes$Rounds", "isSameTrail", "(II)Z"⟩ prog_4_method_6_code 4 (Option.some Jvm.ClassFile.FieldType.boolean) ∈ hx_ws := List.mem_filter.mpr ⟨List.mem_of_getElem? (i := 378) (by decide +kernel), rfl⟩
theorem tb_379 : Cond.methodLink "DearVotesLaw" 86 ⟨"DearVotes", "ended", "()I"⟩ ∈ hx_ws := List.mem_filter.mpr ⟨List.mem_of_getElem? (i := 379) (by decide +kernel), rfl⟩
theorem tb_380 : Cond.instanceMethod ⟨"DearVotes", "ended", "()I"⟩ ∈ hx_ws := List.mem_filter.mpr ⟨List.mem_of_getElem? (i := 380) (by decide +kernel), rfl⟩
theorem tb_381 : Cond.selects "DearVotes" ⟨"DearVotes", "ended", "()I"⟩ ⟨"DearVotes", "ended", "()I"⟩ ∈ hx_ws := List.mem_filter.mpr ⟨List.mem_of_getElem? (i := 381) (by decide +kernel), rfl⟩
theorem tb_382 : Cond.code ⟨"DearVotes", "ended", "()I"⟩ prog_1_method_19_code 1 (Option.some Jvm.ClassFile.FieldType.int) ∈ hx_ws := List.mem_filter.mpr ⟨List.mem_of_getElem? (i := 382) (by decide +kernel), rfl⟩
theorem tb_383 : Cond.methodLink "DearVotesLaw" 90 ⟨"DearVotes", "ring", "()I"⟩ ∈ hx_ws := List.mem_filter.mpr ⟨List.mem_of_getElem? (i := 383) (by decide +kernel), rfl⟩
theorem tb_384 : Cond.instanceMethod ⟨"DearVotes", "ring", "()I"⟩ ∈ hx_ws := List.mem_filter.mpr ⟨List.mem_of_getElem? (i := 384) (by decide +kernel), rfl⟩
theorem tb_385 : Cond.selects "DearVotes" ⟨"DearVotes", "ring", "()I"⟩ ⟨"DearVotes", "ring", "()I"⟩ ∈ hx_ws := List.mem_filter.mpr ⟨List.mem_of_getElem? (i := 385) (by decide +kernel), rfl⟩
theorem tb_386 : Cond.code ⟨"DearVotes", "ring", "()I"⟩ prog_1_method_20_code 1 (Option.some Jvm.ClassFile.FieldType.int) ∈ hx_ws := List.mem_filter.mpr ⟨List.mem_of_getElem? (i := 386) (by decide +kernel), rfl⟩
theorem tb_387 : Cond.methodLink "DearVotesLaw" 94 ⟨"DearVotes", "gift", "(III)I"⟩ ∈ hx_ws := List.mem_filter.mpr ⟨List.mem_of_getElem? (i := 387) (by decide +kernel), rfl⟩
theorem tb_388 : Cond.instanceMethod ⟨"DearVotes", "gift", "(III)I"⟩ ∈ hx_ws := List.mem_filter.mpr ⟨List.mem_of_getElem? (i := 388) (by decide +kernel), rfl⟩
theorem tb_389 : Cond.selects "DearVotes" ⟨"DearVotes", "gift", "(III)I"⟩ ⟨"DearVotes", "gift", "(III)I"⟩ ∈ hx_ws := List.mem_filter.mpr ⟨List.mem_of_getElem? (i := 389) (by decide +kernel), rfl⟩
theorem tb_390 : Cond.code ⟨"DearVotes", "gift", "(III)I"⟩ prog_1_method_21_code 5 (Option.some Jvm.ClassFile.FieldType.int) ∈ hx_ws := List.mem_filter.mpr ⟨List.mem_of_getElem? (i := 390) (by decide +kernel), rfl⟩
theorem tb_391 : Cond.methodLink "DearVotes" 123 ⟨"DearVotes$Fund", "hasProject", "(I)Z"⟩ ∈ hx_ws := List.mem_filter.mpr ⟨List.mem_of_getElem? (i := 391) (by decide +kernel), rfl⟩
theorem tb_392 : Cond.instanceMethod ⟨"DearVotes$Fund", "hasProject", "(I)Z"⟩ ∈ hx_ws := List.mem_filter.mpr ⟨List.mem_of_getElem? (i := 392) (by decide +kernel), rfl⟩
theorem tb_393 : Cond.selects "DearVotes$Fund" ⟨"DearVotes$Fund", "hasProject", "(I)Z"⟩ ⟨"DearVotes$Fund", "hasProject", "(I)Z"⟩ ∈ hx_ws := List.mem_filter.mpr ⟨List.mem_of_getElem? (i := 393) (by decide +kernel), rfl⟩
theorem tb_394 : Cond.code ⟨"DearVotes$Fund", "hasProject", "(I)Z"⟩ prog_2_method_2_code 2 (Option.some Jvm.ClassFile.FieldType.boolean) ∈ hx_ws := List.mem_filter.mpr ⟨List.mem_of_getElem? (i := 394) (by decide +kernel), rfl⟩
theorem tb_395 : Cond.constant "DearVotes" 126 1000000 ∈ hx_ws := List.mem_filter.mpr ⟨List.mem_of_getElem? (i := 395) (by decide +kernel), rfl⟩
theorem tb_396 : Cond.methodLink "DearVotesLaw" 98 ⟨"DearVotes", "bond", "(III)I"⟩ ∈ hx_ws := List.mem_filter.mpr ⟨List.mem_of_getElem? (i := 396) (by decide +kernel), rfl⟩
theorem tb_397 : Cond.instanceMethod ⟨"DearVotes", "bond", "(III)I"⟩ ∈ hx_ws := List.mem_filter.mpr ⟨List.mem_of_getElem? (i := 397) (by decide +kernel), rfl⟩
theorem tb_398 : Cond.selects "DearVotes" ⟨"DearVotes", "bond", "(III)I"⟩ ⟨"DearVotes", "bond", "(III)I"⟩ ∈ hx_ws := List.mem_filter.mpr ⟨List.mem_of_getElem? (i := 398) (by decide +kernel), rfl⟩
theorem tb_399 : Cond.code ⟨"DearVotes", "bond", "(III)I"⟩ prog_1_method_22_code 5 (Option.some Jvm.ClassFile.FieldType.int) ∈ hx_ws := List.mem_filter.mpr ⟨List.mem_of_getElem? (i := 399) (by decide +kernel), rfl⟩
theorem tb_400 : Cond.methodLink "DearVotesLaw" 102 ⟨"DearVotes", "matched", "(II)J"⟩ ∈ hx_ws := List.mem_filter.mpr ⟨List.mem_of_getElem? (i := 400) (by decide +kernel), rfl⟩
theorem tb_401 : Cond.instanceMethod ⟨"DearVotes", "matched", "(II)J"⟩ ∈ hx_ws := List.mem_filter.mpr ⟨List.mem_of_getElem? (i := 401) (by decide +kernel), rfl⟩
theorem tb_402 : Cond.selects "DearVotes" ⟨"DearVotes", "matched", "(II)J"⟩ ⟨"DearVotes", "matched", "(II)J"⟩ ∈ hx_ws := List.mem_filter.mpr ⟨List.mem_of_getElem? (i := 402) (by decide +kernel), rfl⟩
theorem tb_403 : Cond.code ⟨"DearVotes", "matched", "(II)J"⟩ prog_1_method_23_code 3 (Option.some Jvm.ClassFile.FieldType.long) ∈ hx_ws := List.mem_filter.mpr ⟨List.mem_of_getElem? (i := 403) (by decide +kernel), rfl⟩
theorem tb_404 : Cond.constantLong "DearVotes" 133 (-101) ∈ hx_ws := List.mem_filter.mpr ⟨List.mem_of_getElem? (i := 404) (by decide +kernel), rfl⟩
theorem tb_405 : Cond.constantLong "DearVotes" 135 (-102) ∈ hx_ws := List.mem_filter.mpr ⟨List.mem_of_getElem? (i := 405) (by decide +kernel), rfl⟩
theorem tb_406 : Cond.methodLink "DearVotes" 137 ⟨"DearVotes$Fund", "matchedLow", "(I)J"⟩ ∈ hx_ws := List.mem_filter.mpr ⟨List.mem_of_getElem? (i := 406) (by decide +kernel), rfl⟩
theorem tb_407 : Cond.instanceMethod ⟨"DearVotes$Fund", "matchedLow", "(I)J"⟩ ∈ hx_ws := List.mem_filter.mpr ⟨List.mem_of_getElem? (i := 407) (by decide +kernel), rfl⟩
theorem tb_408 : Cond.selects "DearVotes$Fund" ⟨"DearVotes$Fund", "matchedLow", "(I)J"⟩ ⟨"DearVotes$Fund", "matchedLow", "(I)J"⟩ ∈ hx_ws := List.mem_filter.mpr ⟨List.mem_of_getElem? (i := 408) (by decide +kernel), rfl⟩
theorem tb_409 : Cond.code ⟨"DearVotes$Fund", "matchedLow", "(I)J"⟩ prog_2_method_3_code 6 (Option.some Jvm.ClassFile.FieldType.long) ∈ hx_ws := List.mem_filter.mpr ⟨List.mem_of_getElem? (i := 409) (by decide +kernel), rfl⟩
theorem tb_410 : Cond.methodLink "DearVotes$Fund" 36 ⟨"DearVotes$Fund", "fineProduct", "(III)J"⟩ ∈ hx_ws := List.mem_filter.mpr ⟨List.mem_of_getElem? (i := 410) (by decide +kernel), rfl⟩
theorem tb_411 : Cond.privateMethod ⟨"DearVotes$Fund", "fineProduct", "(III)J"⟩ ∈ lw_tbl := List.mem_of_getElem? (i := 411) (by decide +kernel)
theorem tb_412 : Cond.instanceMethod ⟨"DearVotes$Fund", "fineProduct", "(III)J"⟩ ∈ hx_ws := List.mem_filter.mpr ⟨List.mem_of_getElem? (i := 412) (by decide +kernel), rfl⟩
theorem tb_413 : Cond.code ⟨"DearVotes$Fund", "fineProduct", "(III)J"⟩ prog_2_method_6_code 4 (Option.some Jvm.ClassFile.FieldType.long) ∈ hx_ws := List.mem_filter.mpr ⟨List.mem_of_getElem? (i := 413) (by decide +kernel), rfl⟩
theorem tb_414 : Cond.constantLong "DearVotes$Fund" 53 65536 ∈ hx_ws := List.mem_filter.mpr ⟨List.mem_of_getElem? (i := 414) (by decide +kernel), rfl⟩
theorem tb_415 : Cond.methodLink "DearVotes$Fund" 40 ⟨"DearVotes$Fund", "root", "(J)J"⟩ ∈ hx_ws := List.mem_filter.mpr ⟨List.mem_of_getElem? (i := 415) (by decide +kernel), rfl⟩
theorem tb_416 : Cond.static ⟨"DearVotes$Fund", "root", "(J)J"⟩ ∈ hx_ws := List.mem_filter.mpr ⟨List.mem_of_getElem? (i := 416) (by decide +kernel), rfl⟩
theorem tb_417 : Cond.code ⟨"DearVotes$Fund", "root", "(J)J"⟩ prog_2_method_7_code 6 (Option.some Jvm.ClassFile.FieldType.long) ∈ hx_ws := List.mem_filter.mpr ⟨List.mem_of_getElem? (i := 417) (by decide +kernel), rfl⟩
theorem tb_418 : Cond.constantLong "DearVotes$Fund" 55 268435456 ∈ hx_ws := List.mem_filter.mpr ⟨List.mem_of_getElem? (i := 418) (by decide +kernel), rfl⟩
theorem tb_419 : Cond.constantLong "DearVotes$Fund" 44 2 ∈ hx_ws := List.mem_filter.mpr ⟨List.mem_of_getElem? (i := 419) (by decide +kernel), rfl⟩
theorem tb_420 : Cond.constantLong "DearVotes$Fund" 46 256000 ∈ hx_ws := List.mem_filter.mpr ⟨List.mem_of_getElem? (i := 420) (by decide +kernel), rfl⟩
theorem tb_421 : Cond.methodLink "DearVotes" 141 ⟨"DearVotes$Fund", "matchedHigh", "(I)J"⟩ ∈ hx_ws := List.mem_filter.mpr ⟨List.mem_of_getElem? (i := 421) (by decide +kernel), rfl⟩
theorem tb_422 : Cond.instanceMethod ⟨"DearVotes$Fund", "matchedHigh", "(I)J"⟩ ∈ hx_ws := List.mem_filter.mpr ⟨List.mem_of_getElem? (i := 422) (by decide +kernel), rfl⟩
theorem tb_423 : Cond.selects "DearVotes$Fund" ⟨"DearVotes$Fund", "matchedHigh", "(I)J"⟩ ⟨"DearVotes$Fund", "matchedHigh", "(I)J"⟩ ∈ hx_ws := List.mem_filter.mpr ⟨List.mem_of_getElem? (i := 423) (by decide +kernel), rfl⟩
theorem tb_424 : Cond.code ⟨"DearVotes$Fund", "matchedHigh", "(I)J"⟩ prog_2_method_5_code 6 (Option.some Jvm.ClassFile.FieldType.long) ∈ hx_ws := List.mem_filter.mpr ⟨List.mem_of_getElem? (i := 424) (by decide +kernel), rfl⟩
theorem tb_425 : Cond.methodLink "DearVotes$Fund" 50 ⟨"DearVotes$Fund", "rootAbove", "(J)J"⟩ ∈ hx_ws := List.mem_filter.mpr ⟨List.mem_of_getElem? (i := 425) (by decide +kernel), rfl⟩
theorem tb_426 : Cond.static ⟨"DearVotes$Fund", "rootAbove", "(J)J"⟩ ∈ hx_ws := List.mem_filter.mpr ⟨List.mem_of_getElem? (i := 426) (by decide +kernel), rfl⟩
theorem tb_427 : Cond.code ⟨"DearVotes$Fund", "rootAbove", "(J)J"⟩ prog_2_method_8_code 4 (Option.some Jvm.ClassFile.FieldType.long) ∈ hx_ws := List.mem_filter.mpr ⟨List.mem_of_getElem? (i := 427) (by decide +kernel), rfl⟩
theorem tb_428 : Cond.methodLink "DearVotesLaw" 109 ⟨"DearVotes", "share", "(IJ)J"⟩ ∈ hx_ws := List.mem_filter.mpr ⟨List.mem_of_getElem? (i := 428) (by decide +kernel), rfl⟩
theorem tb_429 : Cond.instanceMethod ⟨"DearVotes", "share", "(IJ)J"⟩ ∈ hx_ws := List.mem_filter.mpr ⟨List.mem_of_getElem? (i := 429) (by decide +kernel), rfl⟩
theorem tb_430 : Cond.selects "DearVotes" ⟨"DearVotes", "share", "(IJ)J"⟩ ⟨"DearVotes", "share", "(IJ)J"⟩ ∈ hx_ws := List.mem_filter.mpr ⟨List.mem_of_getElem? (i := 430) (by decide +kernel), rfl⟩
theorem tb_431 : Cond.code ⟨"DearVotes", "share", "(IJ)J"⟩ prog_1_method_24_code 4 (Option.some Jvm.ClassFile.FieldType.long) ∈ hx_ws := List.mem_filter.mpr ⟨List.mem_of_getElem? (i := 431) (by decide +kernel), rfl⟩
theorem tb_432 : Cond.constantLong "DearVotes" 144 1000000000 ∈ hx_ws := List.mem_filter.mpr ⟨List.mem_of_getElem? (i := 432) (by decide +kernel), rfl⟩
theorem tb_433 : Cond.methodLink "DearVotes" 146 ⟨"DearVotes$Fund", "shareOf", "(IJ)J"⟩ ∈ hx_ws := List.mem_filter.mpr ⟨List.mem_of_getElem? (i := 433) (by decide +kernel), rfl⟩
theorem tb_434 : Cond.instanceMethod ⟨"DearVotes$Fund", "shareOf", "(IJ)J"⟩ ∈ hx_ws := List.mem_filter.mpr ⟨List.mem_of_getElem? (i := 434) (by decide +kernel), rfl⟩
theorem tb_435 : Cond.selects "DearVotes$Fund" ⟨"DearVotes$Fund", "shareOf", "(IJ)J"⟩ ⟨"DearVotes$Fund", "shareOf", "(IJ)J"⟩ ∈ hx_ws := List.mem_filter.mpr ⟨List.mem_of_getElem? (i := 435) (by decide +kernel), rfl⟩
theorem tb_436 : Cond.code ⟨"DearVotes$Fund", "shareOf", "(IJ)J"⟩ prog_2_method_9_code 14 (Option.some Jvm.ClassFile.FieldType.long) ∈ hx_ws := List.mem_filter.mpr ⟨List.mem_of_getElem? (i := 436) (by decide +kernel), rfl⟩
theorem tb_437 : Cond.methodLink "DearVotes$Fund" 57 ⟨"DearVotes$Fund", "matchedLow", "(I)J"⟩ ∈ hx_ws := List.mem_filter.mpr ⟨List.mem_of_getElem? (i := 437) (by decide +kernel), rfl⟩
theorem tb_438 : Cond.methodLink "DearVotesLaw" 114 ⟨"DearVotes", "damped", "(I)J"⟩ ∈ hx_ws := List.mem_filter.mpr ⟨List.mem_of_getElem? (i := 438) (by decide +kernel), rfl⟩
theorem tb_439 : Cond.instanceMethod ⟨"DearVotes", "damped", "(I)J"⟩ ∈ hx_ws := List.mem_filter.mpr ⟨List.mem_of_getElem? (i := 439) (by decide +kernel), rfl⟩
theorem tb_440 : Cond.selects "DearVotes" ⟨"DearVotes", "damped", "(I)J"⟩ ⟨"DearVotes", "damped", "(I)J"⟩ ∈ hx_ws := List.mem_filter.mpr ⟨List.mem_of_getElem? (i := 440) (by decide +kernel), rfl⟩
theorem tb_441 : Cond.code ⟨"DearVotes", "damped", "(I)J"⟩ prog_1_method_25_code 2 (Option.some Jvm.ClassFile.FieldType.long) ∈ hx_ws := List.mem_filter.mpr ⟨List.mem_of_getElem? (i := 441) (by decide +kernel), rfl⟩
theorem tb_442 : Cond.methodLink "DearVotes" 150 ⟨"DearVotes$Fund", "matchedUndamped", "(I)J"⟩ ∈ hx_ws := List.mem_filter.mpr ⟨List.mem_of_getElem? (i := 442) (by decide +kernel), rfl⟩
theorem tb_443 : Cond.instanceMethod ⟨"DearVotes$Fund", "matchedUndamped", "(I)J"⟩ ∈ hx_ws := List.mem_filter.mpr ⟨List.mem_of_getElem? (i := 443) (by decide +kernel), rfl⟩
theorem tb_444 : Cond.selects "DearVotes$Fund" ⟨"DearVotes$Fund", "matchedUndamped", "(I)J"⟩ ⟨"DearVotes$Fund", "matchedUndamped", "(I)J"⟩ ∈ hx_ws := List.mem_filter.mpr ⟨List.mem_of_getElem? (i := 444) (by decide +kernel), rfl⟩
theorem tb_445 : Cond.code ⟨"DearVotes$Fund", "matchedUndamped", "(I)J"⟩ prog_2_method_4_code 6 (Option.some Jvm.ClassFile.FieldType.long) ∈ hx_ws := List.mem_filter.mpr ⟨List.mem_of_getElem? (i := 445) (by decide +kernel), rfl⟩
theorem tb_446 : Cond.constantLong "DearVotes$Fund" 48 1000 ∈ hx_ws := List.mem_filter.mpr ⟨List.mem_of_getElem? (i := 446) (by decide +kernel), rfl⟩
theorem tb_447 : Cond.methodLink "DearVotesLaw" 119 ⟨"DearVotes", "likeness", "(II)I"⟩ ∈ hx_ws := List.mem_filter.mpr ⟨List.mem_of_getElem? (i := 447) (by decide +kernel), rfl⟩
theorem tb_448 : Cond.instanceMethod ⟨"DearVotes", "likeness", "(II)I"⟩ ∈ hx_ws := List.mem_filter.mpr ⟨List.mem_of_getElem? (i := 448) (by decide +kernel), rfl⟩
theorem tb_449 : Cond.selects "DearVotes" ⟨"DearVotes", "likeness", "(II)I"⟩ ⟨"DearVotes", "likeness", "(II)I"⟩ ∈ hx_ws := List.mem_filter.mpr ⟨List.mem_of_getElem? (i := 449) (by decide +kernel), rfl⟩
theorem tb_450 : Cond.code ⟨"DearVotes", "likeness", "(II)I"⟩ prog_1_method_26_code 3 (Option.some Jvm.ClassFile.FieldType.int) ∈ hx_ws := List.mem_filter.mpr ⟨List.mem_of_getElem? (i := 450) (by decide +kernel), rfl⟩
theorem tb_451 : Cond.methodLink "DearVotes" 153 ⟨"DearVotes$House", "likenessOf", "(II)I"⟩ ∈ hx_ws := List.mem_filter.mpr ⟨List.mem_of_getElem? (i := 451) (by decide +kernel), rfl⟩
theorem tb_452 : Cond.instanceMethod ⟨"DearVotes$House", "likenessOf", "(II)I"⟩ ∈ hx_ws := List.mem_filter.mpr ⟨List.mem_of_getElem? (i := 452) (by decide +kernel), rfl⟩
theorem tb_453 : Cond.selects "DearVotes$House" ⟨"DearVotes$House", "likenessOf", "(II)I"⟩ ⟨"DearVotes$House", "likenessOf", "(II)I"⟩ ∈ hx_ws := List.mem_filter.mpr ⟨List.mem_of_getElem? (i := 453) (by decide +kernel), rfl⟩
theorem tb_454 : Cond.code ⟨"DearVotes$House", "likenessOf", "(II)I"⟩ prog_3_method_13_code 8 (Option.some Jvm.ClassFile.FieldType.int) ∈ hx_ws := List.mem_filter.mpr ⟨List.mem_of_getElem? (i := 454) (by decide +kernel), rfl⟩
theorem tb_455 : Cond.methodLink "DearVotes$House" 53 ⟨"DearVotes$House", "costOf", "(I)I"⟩ ∈ hx_ws := List.mem_filter.mpr ⟨List.mem_of_getElem? (i := 455) (by decide +kernel), rfl⟩
theorem tb_456 : Cond.constantLong "DearVotes$House" 56 1000 ∈ hx_ws := List.mem_filter.mpr ⟨List.mem_of_getElem? (i := 456) (by decide +kernel), rfl⟩
theorem tb_457 : Cond.methodLink "DearVotesLaw" 123 ⟨"DearVotes", "group", "(II)I"⟩ ∈ hx_ws := List.mem_filter.mpr ⟨List.mem_of_getElem? (i := 457) (by decide +kernel), rfl⟩
theorem tb_458 : Cond.instanceMethod ⟨"DearVotes", "group", "(II)I"⟩ ∈ hx_ws := List.mem_filter.mpr ⟨List.mem_of_getElem? (i := 458) (by decide +kernel), rfl⟩
theorem tb_459 : Cond.selects "DearVotes" ⟨"DearVotes", "group", "(II)I"⟩ ⟨"DearVotes", "group", "(II)I"⟩ ∈ hx_ws := List.mem_filter.mpr ⟨List.mem_of_getElem? (i := 459) (by decide +kernel), rfl⟩
theorem tb_460 : Cond.code ⟨"DearVotes", "group", "(II)I"⟩ prog_1_method_27_code 3 (Option.some Jvm.ClassFile.FieldType.int) ∈ hx_ws := List.mem_filter.mpr ⟨List.mem_of_getElem? (i := 460) (by decide +kernel), rfl⟩
theorem tb_461 : Cond.methodLink "DearVotes" 156 ⟨"DearVotes$House", "groupOf", "(II)I"⟩ ∈ hx_ws := List.mem_filter.mpr ⟨List.mem_of_getElem? (i := 461) (by decide +kernel), rfl⟩
theorem tb_462 : Cond.instanceMethod ⟨"DearVotes$House", "groupOf", "(II)I"⟩ ∈ hx_ws := List.mem_filter.mpr ⟨List.mem_of_getElem? (i := 462) (by decide +kernel), rfl⟩
theorem tb_463 : Cond.selects "DearVotes$House" ⟨"DearVotes$House", "groupOf", "(II)I"⟩ ⟨"DearVotes$House", "groupOf", "(II)I"⟩ ∈ hx_ws := List.mem_filter.mpr ⟨List.mem_of_getElem? (i := 463) (by decide +kernel), rfl⟩
theorem tb_464 : Cond.code ⟨"DearVotes$House", "groupOf", "(II)I"⟩ prog_3_method_14_code 7 (Option.some Jvm.ClassFile.FieldType.int) ∈ hx_ws := List.mem_filter.mpr ⟨List.mem_of_getElem? (i := 464) (by decide +kernel), rfl⟩
theorem tb_465 : Cond.methodLink "DearVotes$House" 58 ⟨"DearVotes$House", "alikeTo", "(II)I"⟩ ∈ hx_ws := List.mem_filter.mpr ⟨List.mem_of_getElem? (i := 465) (by decide +kernel), rfl⟩
theorem tb_466 : Cond.instanceMethod ⟨"DearVotes$House", "alikeTo", "(II)I"⟩ ∈ hx_ws := List.mem_filter.mpr ⟨List.mem_of_getElem? (i := 466) (by decide +kernel), rfl⟩
theorem tb_467 : Cond.selects "DearVotes$House" ⟨"DearVotes$House", "alikeTo", "(II)I"⟩ ⟨"DearVotes$House", "alikeTo", "(II)I"⟩ ∈ hx_ws := List.mem_filter.mpr ⟨List.mem_of_getElem? (i := 467) (by decide +kernel), rfl⟩
theorem tb_468 : Cond.code ⟨"DearVotes$House", "alikeTo", "(II)I"⟩ prog_3_method_15_code 5 (Option.some Jvm.ClassFile.FieldType.int) ∈ hx_ws := List.mem_filter.mpr ⟨List.mem_of_getElem? (i := 468) (by decide +kernel), rfl⟩
theorem tb_469 : Cond.methodLink "DearVotes$House" 61 ⟨"DearVotes$House", "likenessOf", "(II)I"⟩ ∈ hx_ws := List.mem_filter.mpr ⟨List.mem_of_getElem? (i := 469) (by decide +kernel), rfl⟩
theorem tb_470 : Cond.methodLink "DearVotesLaw" 127 ⟨"DearVotes", "count", "(I)I"⟩ ∈ hx_ws := List.mem_filter.mpr ⟨List.mem_of_getElem? (i := 470) (by decide +kernel), rfl⟩
theorem tb_471 : Cond.instanceMethod ⟨"DearVotes", "count", "(I)I"⟩ ∈ hx_ws := List.mem_filter.mpr ⟨List.mem_of_getElem? (i := 471) (by decide +kernel), rfl⟩
theorem tb_472 : Cond.selects "DearVotes" ⟨"DearVotes", "count", "(I)I"⟩ ⟨"DearVotes", "count", "(I)I"⟩ ∈ hx_ws := List.mem_filter.mpr ⟨List.mem_of_getElem? (i := 472) (by decide +kernel), rfl⟩
theorem tb_473 : Cond.code ⟨"DearVotes", "count", "(I)I"⟩ prog_1_method_28_code 2 (Option.some Jvm.ClassFile.FieldType.int) ∈ hx_ws := List.mem_filter.mpr ⟨List.mem_of_getElem? (i := 473) (by decide +kernel), rfl⟩
theorem tb_474 : Cond.methodLink "DearVotes" 159 ⟨"DearVotes$House", "peoplePresent", "()I"⟩ ∈ hx_ws := List.mem_filter.mpr ⟨List.mem_of_getElem? (i := 474) (by decide +kernel), rfl⟩
theorem tb_475 : Cond.instanceMethod ⟨"DearVotes$House", "peoplePresent", "()I"⟩ ∈ hx_ws := List.mem_filter.mpr ⟨List.mem_of_getElem? (i := 475) (by decide +kernel), rfl⟩
theorem tb_476 : Cond.selects "DearVotes$House" ⟨"DearVotes$House", "peoplePresent", "()I"⟩ ⟨"DearVotes$House", "peoplePresent", "()I"⟩ ∈ hx_ws := List.mem_filter.mpr ⟨List.mem_of_getElem? (i := 476) (by decide +kernel), rfl⟩
theorem tb_477 : Cond.code ⟨"DearVotes$House", "peoplePresent", "()I"⟩ prog_3_method_5_code 3 (Option.some Jvm.ClassFile.FieldType.int) ∈ hx_ws := List.mem_filter.mpr ⟨List.mem_of_getElem? (i := 477) (by decide +kernel), rfl⟩
theorem tb_478 : Cond.methodLink "DearVotesLaw" 131 ⟨"DearVotes", "digest", "()J"⟩ ∈ hx_ws := List.mem_filter.mpr ⟨List.mem_of_getElem? (i := 478) (by decide +kernel), rfl⟩
theorem tb_479 : Cond.instanceMethod ⟨"DearVotes", "digest", "()J"⟩ ∈ hx_ws := List.mem_filter.mpr ⟨List.mem_of_getElem? (i := 479) (by decide +kernel), rfl⟩
theorem tb_480 : Cond.selects "DearVotes" ⟨"DearVotes", "digest", "()J"⟩ ⟨"DearVotes", "digest", "()J"⟩ ∈ hx_ws := List.mem_filter.mpr ⟨List.mem_of_getElem? (i := 480) (by decide +kernel), rfl⟩
theorem tb_481 : Cond.code ⟨"DearVotes", "digest", "()J"⟩ prog_1_method_29_code 4 (Option.some Jvm.ClassFile.FieldType.long) ∈ hx_ws := List.mem_filter.mpr ⟨List.mem_of_getElem? (i := 481) (by decide +kernel), rfl⟩
theorem tb_482 : Cond.constantLong "DearVotes" 169 103 ∈ hx_ws := List.mem_filter.mpr ⟨List.mem_of_getElem? (i := 482) (by decide +kernel), rfl⟩
theorem tb_483 : Cond.methodLink "DearVotes" 171 ⟨"DearVotes$House", "digestPerson", "(JI)J"⟩ ∈ hx_ws := List.mem_filter.mpr ⟨List.mem_of_getElem? (i := 483) (by decide +kernel), rfl⟩
theorem tb_484 : Cond.instanceMethod ⟨"DearVotes$House", "digestPerson", "(JI)J"⟩ ∈ hx_ws := List.mem_filter.mpr ⟨List.mem_of_getElem? (i := 484) (by decide +kernel), rfl⟩
theorem tb_485 : Cond.selects "DearVotes$House" ⟨"DearVotes$House", "digestPerson", "(JI)J"⟩ ⟨"DearVotes$House", "digestPerson", "(JI)J"⟩ ∈ hx_ws := List.mem_filter.mpr ⟨List.mem_of_getElem? (i := 485) (by decide +kernel), rfl⟩
theorem tb_486 : Cond.code ⟨"DearVotes$House", "digestPerson", "(JI)J"⟩ prog_3_method_17_code 7 (Option.some Jvm.ClassFile.FieldType.long) ∈ hx_ws := List.mem_filter.mpr ⟨List.mem_of_getElem? (i := 486) (by decide +kernel), rfl⟩
theorem tb_487 : Cond.constantLong "DearVotes$House" 68 31 ∈ hx_ws := List.mem_filter.mpr ⟨List.mem_of_getElem? (i := 487) (by decide +kernel), rfl⟩
theorem tb_488 : Cond.methodLink "DearVotes" 175 ⟨"DearVotes$Fund", "digestPerson", "(JI)J"⟩ ∈ hx_ws := List.mem_filter.mpr ⟨List.mem_of_getElem? (i := 488) (by decide +kernel), rfl⟩
theorem tb_489 : Cond.instanceMethod ⟨"DearVotes$Fund", "digestPerson", "(JI)J"⟩ ∈ hx_ws := List.mem_filter.mpr ⟨List.mem_of_getElem? (i := 489) (by decide +kernel), rfl⟩
theorem tb_490 : Cond.selects "DearVotes$Fund" ⟨"DearVotes$Fund", "digestPerson", "(JI)J"⟩ ⟨"DearVotes$Fund", "digestPerson", "(JI)J"⟩ ∈ hx_ws := List.mem_filter.mpr ⟨List.mem_of_getElem? (i := 490) (by decide +kernel), rfl⟩
theorem tb_491 : Cond.code ⟨"DearVotes$Fund", "digestPerson", "(JI)J"⟩ prog_2_method_10_code 7 (Option.some Jvm.ClassFile.FieldType.long) ∈ hx_ws := List.mem_filter.mpr ⟨List.mem_of_getElem? (i := 491) (by decide +kernel), rfl⟩
theorem tb_492 : Cond.constantLong "DearVotes$Fund" 61 31 ∈ hx_ws := List.mem_filter.mpr ⟨List.mem_of_getElem? (i := 492) (by decide +kernel), rfl⟩
theorem tb_493 : Cond.constantLong "DearVotes" 176 31 ∈ hx_ws := List.mem_filter.mpr ⟨List.mem_of_getElem? (i := 493) (by decide +kernel), rfl⟩
theorem tb_494 : Cond.classLink "DearVotesLaw" 10 "DearVotesModel" ∈ hx_ws := List.mem_filter.mpr ⟨List.mem_of_getElem? (i := 494) (by decide +kernel), rfl⟩
theorem tb_495 : Cond.instantiable "DearVotesModel" 25 ∈ hx_ws := List.mem_filter.mpr ⟨List.mem_of_getElem? (i := 495) (by decide +kernel), rfl⟩
theorem tb_496 : Cond.methodLink "DearVotesLaw" 12 ⟨"DearVotesModel", "<init>", "()V"⟩ ∈ hx_ws := List.mem_filter.mpr ⟨List.mem_of_getElem? (i := 496) (by decide +kernel), rfl⟩
theorem tb_497 : Cond.instanceMethod ⟨"DearVotesModel", "<init>", "()V"⟩ ∈ hx_ws := List.mem_filter.mpr ⟨List.mem_of_getElem? (i := 497) (by decide +kernel), rfl⟩
theorem tb_498 : Cond.code ⟨"DearVotesModel", "<init>", "()V"⟩ prog_7_method_1_code 2 (Option.none : Option Jvm.ClassFile.FieldType) ∈ hx_ws := List.mem_filter.mpr ⟨List.mem_of_getElem? (i := 498) (by decide +kernel), rfl⟩
theorem tb_499 : Cond.methodLink "DearVotesModel" 1 ⟨"java/lang/Object", "<init>", "()V"⟩ ∈ hx_ws := List.mem_filter.mpr ⟨List.mem_of_getElem? (i := 499) (by decide +kernel), rfl⟩
theorem tb_500 : Cond.fieldLink "DearVotesModel" 51 "DearVotesModel" "people" "I" ∈ hx_ws := List.mem_filter.mpr ⟨List.mem_of_getElem? (i := 500) (by decide +kernel), rfl⟩
theorem tb_501 : Cond.fieldLink "DearVotesModel" 59 "DearVotesModel" "questions" "I" ∈ hx_ws := List.mem_filter.mpr ⟨List.mem_of_getElem? (i := 501) (by decide +kernel), rfl⟩
theorem tb_502 : Cond.fieldLink "DearVotesModel" 62 "DearVotesModel" "projects" "I" ∈ hx_ws := List.mem_filter.mpr ⟨List.mem_of_getElem? (i := 502) (by decide +kernel), rfl⟩
theorem tb_503 : Cond.fieldLink "DearVotesModel" 65 "DearVotesModel" "seed" "I" ∈ hx_ws := List.mem_filter.mpr ⟨List.mem_of_getElem? (i := 503) (by decide +kernel), rfl⟩
theorem tb_504 : Cond.fieldLink "DearVotesModel" 7 "DearVotesModel" "budgets" "[I" ∈ hx_ws := List.mem_filter.mpr ⟨List.mem_of_getElem? (i := 504) (by decide +kernel), rfl⟩
theorem tb_505 : Cond.fieldLink "DearVotesModel" 13 "DearVotesModel" "isHere" "[Z" ∈ hx_ws := List.mem_filter.mpr ⟨List.mem_of_getElem? (i := 505) (by decide +kernel), rfl⟩
theorem tb_506 : Cond.fieldLink "DearVotesModel" 17 "DearVotesModel" "votes" "[I" ∈ hx_ws := List.mem_filter.mpr ⟨List.mem_of_getElem? (i := 506) (by decide +kernel), rfl⟩
theorem tb_507 : Cond.fieldLink "DearVotesModel" 20 "DearVotesModel" "worths" "[I" ∈ hx_ws := List.mem_filter.mpr ⟨List.mem_of_getElem? (i := 507) (by decide +kernel), rfl⟩
theorem tb_508 : Cond.fieldLink "DearVotesModel" 23 "DearVotesModel" "gifts" "[I" ∈ hx_ws := List.mem_filter.mpr ⟨List.mem_of_getElem? (i := 508) (by decide +kernel), rfl⟩
theorem tb_509 : Cond.fieldLink "DearVotesModel" 26 "DearVotesModel" "bonds" "[I" ∈ hx_ws := List.mem_filter.mpr ⟨List.mem_of_getElem? (i := 509) (by decide +kernel), rfl⟩
theorem tb_510 : Cond.fieldLink "DearVotesModel" 129 "DearVotesModel" "rounds" "I" ∈ hx_ws := List.mem_filter.mpr ⟨List.mem_of_getElem? (i := 510) (by decide +kernel), rfl⟩
theorem tb_511 : Cond.fieldLink "DearVotesModel" 132 "DearVotesModel" "changes" "I" ∈ hx_ws := List.mem_filter.mpr ⟨List.mem_of_getElem? (i := 511) (by decide +kernel), rfl⟩
theorem tb_512 : Cond.fieldLink "DearVotesModel" 120 "DearVotesModel" "ended" "I" ∈ hx_ws := List.mem_filter.mpr ⟨List.mem_of_getElem? (i := 512) (by decide +kernel), rfl⟩
theorem tb_513 : Cond.fieldLink "DearVotesModel" 123 "DearVotesModel" "ring" "I" ∈ hx_ws := List.mem_filter.mpr ⟨List.mem_of_getElem? (i := 513) (by decide +kernel), rfl⟩
theorem tb_514 : Cond.fieldLink "DearVotesModel" 29 "DearVotesModel" "cheapest" "[I" ∈ hx_ws := List.mem_filter.mpr ⟨List.mem_of_getElem? (i := 514) (by decide +kernel), rfl⟩
theorem tb_515 : Cond.fieldLink "DearVotesModel" 32 "DearVotesModel" "may" "[Z" ∈ hx_ws := List.mem_filter.mpr ⟨List.mem_of_getElem? (i := 515) (by decide +kernel), rfl⟩
theorem tb_516 : Cond.fieldLink "DearVotesModel" 35 "DearVotesModel" "bestVoices" "[I" ∈ hx_ws := List.mem_filter.mpr ⟨List.mem_of_getElem? (i := 516) (by decide +kernel), rfl⟩
theorem tb_517 : Cond.fieldLink "DearVotesModel" 38 "DearVotesModel" "tryVoices" "[I" ∈ hx_ws := List.mem_filter.mpr ⟨List.mem_of_getElem? (i := 517) (by decide +kernel), rfl⟩
theorem tb_518 : Cond.fieldLink "DearVotesModel" 99 "DearVotesModel" "bestGain" "I" ∈ hx_ws := List.mem_filter.mpr ⟨List.mem_of_getElem? (i := 518) (by decide +kernel), rfl⟩
theorem tb_519 : Cond.fieldLink "DearVotesModel" 102 "DearVotesModel" "bestCost" "I" ∈ hx_ws := List.mem_filter.mpr ⟨List.mem_of_getElem? (i := 519) (by decide +kernel), rfl⟩
theorem tb_520 : Cond.fieldLink "DearVotesModel" 95 "DearVotesModel" "hasBest" "Z" ∈ hx_ws := List.mem_filter.mpr ⟨List.mem_of_getElem? (i := 520) (by decide +kernel), rfl⟩
theorem tb_521 : Cond.fieldLink "DearVotesModel" 41 "DearVotesModel" "past" "[I" ∈ hx_ws := List.mem_filter.mpr ⟨List.mem_of_getElem? (i := 521) (by decide +kernel), rfl⟩
theorem tb_522 : Cond.fieldLink "DearVotesModel" 44 "DearVotesModel" "parts" "[J" ∈ hx_ws := List.mem_filter.mpr ⟨List.mem_of_getElem? (i := 522) (by decide +kernel), rfl⟩
theorem tb_523 : Cond.fieldLink "DearVotesModel" 48 "DearVotesModel" "rests" "[J" ∈ hx_ws := List.mem_filter.mpr ⟨List.mem_of_getElem? (i := 523) (by decide +kernel), rfl⟩
theorem tb_524 : Cond.fieldLink "DearVotesModel" 173 "DearVotesModel" "h" "J" ∈ hx_ws := List.mem_filter.mpr ⟨List.mem_of_getElem? (i := 524) (by decide +kernel), rfl⟩
theorem tb_525 : Cond.lays "DearVotesModel" "DearVotesModel" "people" "I" ∈ hx_ws := List.mem_filter.mpr ⟨List.mem_of_getElem? (i := 525) (by decide +kernel), rfl⟩
theorem tb_526 : Cond.soleField "DearVotesModel" "people" ∈ hx_ws := List.mem_filter.mpr ⟨List.mem_of_getElem? (i := 526) (by decide +kernel), rfl⟩
theorem tb_527 : Cond.lays "DearVotesModel" "DearVotesModel" "questions" "I" ∈ hx_ws := List.mem_filter.mpr ⟨List.mem_of_getElem? (i := 527) (by decide +kernel), rfl⟩
theorem tb_528 : Cond.soleField "DearVotesModel" "questions" ∈ hx_ws := List.mem_filter.mpr ⟨List.mem_of_getElem? (i := 528) (by decide +kernel), rfl⟩
theorem tb_529 : Cond.lays "DearVotesModel" "DearVotesModel" "projects" "I" ∈ hx_ws := List.mem_filter.mpr ⟨List.mem_of_getElem? (i := 529) (by decide +kernel), rfl⟩
theorem tb_530 : Cond.soleField "DearVotesModel" "projects" ∈ hx_ws := List.mem_filter.mpr ⟨List.mem_of_getElem? (i := 530) (by decide +kernel), rfl⟩
theorem tb_531 : Cond.lays "DearVotesModel" "DearVotesModel" "seed" "I" ∈ hx_ws := List.mem_filter.mpr ⟨List.mem_of_getElem? (i := 531) (by decide +kernel), rfl⟩
theorem tb_532 : Cond.soleField "DearVotesModel" "seed" ∈ hx_ws := List.mem_filter.mpr ⟨List.mem_of_getElem? (i := 532) (by decide +kernel), rfl⟩
theorem tb_533 : Cond.laysFinal "DearVotesModel" "DearVotesModel" "budgets" "[I" ∈ hx_ws := List.mem_filter.mpr ⟨List.mem_of_getElem? (i := 533) (by decide +kernel), rfl⟩
theorem tb_534 : Cond.soleField "DearVotesModel" "budgets" ∈ hx_ws := List.mem_filter.mpr ⟨List.mem_of_getElem? (i := 534) (by decide +kernel), rfl⟩
theorem tb_535 : Cond.laysFinal "DearVotesModel" "DearVotesModel" "isHere" "[Z" ∈ hx_ws := List.mem_filter.mpr ⟨List.mem_of_getElem? (i := 535) (by decide +kernel), rfl⟩
theorem tb_536 : Cond.soleField "DearVotesModel" "isHere" ∈ hx_ws := List.mem_filter.mpr ⟨List.mem_of_getElem? (i := 536) (by decide +kernel), rfl⟩
theorem tb_537 : Cond.laysFinal "DearVotesModel" "DearVotesModel" "votes" "[I" ∈ hx_ws := List.mem_filter.mpr ⟨List.mem_of_getElem? (i := 537) (by decide +kernel), rfl⟩
theorem tb_538 : Cond.soleField "DearVotesModel" "votes" ∈ hx_ws := List.mem_filter.mpr ⟨List.mem_of_getElem? (i := 538) (by decide +kernel), rfl⟩
theorem tb_539 : Cond.laysFinal "DearVotesModel" "DearVotesModel" "worths" "[I" ∈ hx_ws := List.mem_filter.mpr ⟨List.mem_of_getElem? (i := 539) (by decide +kernel), rfl⟩
theorem tb_540 : Cond.soleField "DearVotesModel" "worths" ∈ hx_ws := List.mem_filter.mpr ⟨List.mem_of_getElem? (i := 540) (by decide +kernel), rfl⟩
theorem tb_541 : Cond.laysFinal "DearVotesModel" "DearVotesModel" "gifts" "[I" ∈ hx_ws := List.mem_filter.mpr ⟨List.mem_of_getElem? (i := 541) (by decide +kernel), rfl⟩
theorem tb_542 : Cond.soleField "DearVotesModel" "gifts" ∈ hx_ws := List.mem_filter.mpr ⟨List.mem_of_getElem? (i := 542) (by decide +kernel), rfl⟩
theorem tb_543 : Cond.laysFinal "DearVotesModel" "DearVotesModel" "bonds" "[I" ∈ hx_ws := List.mem_filter.mpr ⟨List.mem_of_getElem? (i := 543) (by decide +kernel), rfl⟩
theorem tb_544 : Cond.soleField "DearVotesModel" "bonds" ∈ hx_ws := List.mem_filter.mpr ⟨List.mem_of_getElem? (i := 544) (by decide +kernel), rfl⟩
theorem tb_545 : Cond.lays "DearVotesModel" "DearVotesModel" "rounds" "I" ∈ hx_ws := List.mem_filter.mpr ⟨List.mem_of_getElem? (i := 545) (by decide +kernel), rfl⟩
theorem tb_546 : Cond.soleField "DearVotesModel" "rounds" ∈ hx_ws := List.mem_filter.mpr ⟨List.mem_of_getElem? (i := 546) (by decide +kernel), rfl⟩
theorem tb_547 : Cond.lays "DearVotesModel" "DearVotesModel" "changes" "I" ∈ hx_ws := List.mem_filter.mpr ⟨List.mem_of_getElem? (i := 547) (by decide +kernel), rfl⟩
theorem tb_548 : Cond.soleField "DearVotesModel" "changes" ∈ hx_ws := List.mem_filter.mpr ⟨List.mem_of_getElem? (i := 548) (by decide +kernel), rfl⟩
theorem tb_549 : Cond.lays "DearVotesModel" "DearVotesModel" "ended" "I" ∈ hx_ws := List.mem_filter.mpr ⟨List.mem_of_getElem? (i := 549) (by decide +kernel), rfl⟩
theorem tb_550 : Cond.soleField "DearVotesModel" "ended" ∈ hx_ws := List.mem_filter.mpr ⟨List.mem_of_getElem? (i := 550) (by decide +kernel), rfl⟩
theorem tb_551 : Cond.lays "DearVotesModel" "DearVotesModel" "ring" "I" ∈ hx_ws := List.mem_filter.mpr ⟨List.mem_of_getElem? (i := 551) (by decide +kernel), rfl⟩
theorem tb_552 : Cond.soleField "DearVotesModel" "ring" ∈ hx_ws := List.mem_filter.mpr ⟨List.mem_of_getElem? (i := 552) (by decide +kernel), rfl⟩
theorem tb_553 : Cond.laysFinal "DearVotesModel" "DearVotesModel" "cheapest" "[I" ∈ hx_ws := List.mem_filter.mpr ⟨List.mem_of_getElem? (i := 553) (by decide +kernel), rfl⟩
theorem tb_554 : Cond.soleField "DearVotesModel" "cheapest" ∈ hx_ws := List.mem_filter.mpr ⟨List.mem_of_getElem? (i := 554) (by decide +kernel), rfl⟩
theorem tb_555 : Cond.laysFinal "DearVotesModel" "DearVotesModel" "may" "[Z" ∈ hx_ws := List.mem_filter.mpr ⟨List.mem_of_getElem? (i := 555) (by decide +kernel), rfl⟩
theorem tb_556 : Cond.soleField "DearVotesModel" "may" ∈ hx_ws := List.mem_filter.mpr ⟨List.mem_of_getElem? (i := 556) (by decide +kernel), rfl⟩
theorem tb_557 : Cond.laysFinal "DearVotesModel" "DearVotesModel" "bestVoices" "[I" ∈ hx_ws := List.mem_filter.mpr ⟨List.mem_of_getElem? (i := 557) (by decide +kernel), rfl⟩
theorem tb_558 : Cond.soleField "DearVotesModel" "bestVoices" ∈ hx_ws := List.mem_filter.mpr ⟨List.mem_of_getElem? (i := 558) (by decide +kernel), rfl⟩
theorem tb_559 : Cond.laysFinal "DearVotesModel" "DearVotesModel" "tryVoices" "[I" ∈ hx_ws := List.mem_filter.mpr ⟨List.mem_of_getElem? (i := 559) (by decide +kernel), rfl⟩
theorem tb_560 : Cond.soleField "DearVotesModel" "tryVoices" ∈ hx_ws := List.mem_filter.mpr ⟨List.mem_of_getElem? (i := 560) (by decide +kernel), rfl⟩
theorem tb_561 : Cond.lays "DearVotesModel" "DearVotesModel" "bestGain" "I" ∈ hx_ws := List.mem_filter.mpr ⟨List.mem_of_getElem? (i := 561) (by decide +kernel), rfl⟩
theorem tb_562 : Cond.soleField "DearVotesModel" "bestGain" ∈ hx_ws := List.mem_filter.mpr ⟨List.mem_of_getElem? (i := 562) (by decide +kernel), rfl⟩
theorem tb_563 : Cond.lays "DearVotesModel" "DearVotesModel" "bestCost" "I" ∈ hx_ws := List.mem_filter.mpr ⟨List.mem_of_getElem? (i := 563) (by decide +kernel), rfl⟩
theorem tb_564 : Cond.soleField "DearVotesModel" "bestCost" ∈ hx_ws := List.mem_filter.mpr ⟨List.mem_of_getElem? (i := 564) (by decide +kernel), rfl⟩
theorem tb_565 : Cond.lays "DearVotesModel" "DearVotesModel" "hasBest" "Z" ∈ hx_ws := List.mem_filter.mpr ⟨List.mem_of_getElem? (i := 565) (by decide +kernel), rfl⟩
theorem tb_566 : Cond.soleField "DearVotesModel" "hasBest" ∈ hx_ws := List.mem_filter.mpr ⟨List.mem_of_getElem? (i := 566) (by decide +kernel), rfl⟩
theorem tb_567 : Cond.laysFinal "DearVotesModel" "DearVotesModel" "past" "[I" ∈ hx_ws := List.mem_filter.mpr ⟨List.mem_of_getElem? (i := 567) (by decide +kernel), rfl⟩
theorem tb_568 : Cond.soleField "DearVotesModel" "past" ∈ hx_ws := List.mem_filter.mpr ⟨List.mem_of_getElem? (i := 568) (by decide +kernel), rfl⟩
theorem tb_569 : Cond.laysFinal "DearVotesModel" "DearVotesModel" "parts" "[J" ∈ hx_ws := List.mem_filter.mpr ⟨List.mem_of_getElem? (i := 569) (by decide +kernel), rfl⟩
theorem tb_570 : Cond.soleField "DearVotesModel" "parts" ∈ hx_ws := List.mem_filter.mpr ⟨List.mem_of_getElem? (i := 570) (by decide +kernel), rfl⟩
theorem tb_571 : Cond.laysFinal "DearVotesModel" "DearVotesModel" "rests" "[J" ∈ hx_ws := List.mem_filter.mpr ⟨List.mem_of_getElem? (i := 571) (by decide +kernel), rfl⟩
theorem tb_572 : Cond.soleField "DearVotesModel" "rests" ∈ hx_ws := List.mem_filter.mpr ⟨List.mem_of_getElem? (i := 572) (by decide +kernel), rfl⟩
theorem tb_573 : Cond.lays "DearVotesModel" "DearVotesModel" "h" "J" ∈ hx_ws := List.mem_filter.mpr ⟨List.mem_of_getElem? (i := 573) (by decide +kernel), rfl⟩
theorem tb_574 : Cond.soleField "DearVotesModel" "h" ∈ hx_ws := List.mem_filter.mpr ⟨List.mem_of_getElem? (i := 574) (by decide +kernel), rfl⟩
theorem tb_575 : Cond.superclass "DearVotesModel" "java/lang/Object" ∈ hx_ws := List.mem_filter.mpr ⟨List.mem_of_getElem? (i := 575) (by decide +kernel), rfl⟩
theorem tb_576 : Cond.methodLink "DearVotesLaw" 17 ⟨"DearVotesModel", "person", "(I)I"⟩ ∈ hx_ws := List.mem_filter.mpr ⟨List.mem_of_getElem? (i := 576) (by decide +kernel), rfl⟩
theorem tb_577 : Cond.instanceMethod ⟨"DearVotesModel", "person", "(I)I"⟩ ∈ hx_ws := List.mem_filter.mpr ⟨List.mem_of_getElem? (i := 577) (by decide +kernel), rfl⟩
theorem tb_578 : Cond.selects "DearVotesModel" ⟨"DearVotesModel", "person", "(I)I"⟩ ⟨"DearVotesModel", "person", "(I)I"⟩ ∈ hx_ws := List.mem_filter.mpr ⟨List.mem_of_getElem? (i := 578) (by decide +kernel), rfl⟩
theorem tb_579 : Cond.code ⟨"DearVotesModel", "person", "(I)I"⟩ prog_7_method_7_code 2 (Option.some Jvm.ClassFile.FieldType.int) ∈ hx_ws := List.mem_filter.mpr ⟨List.mem_of_getElem? (i := 579) (by decide +kernel), rfl⟩
theorem tb_580 : Cond.methodLink "DearVotesModel" 55 ⟨"DearVotesModel", "in", "(III)Z"⟩ ∈ hx_ws := List.mem_filter.mpr ⟨List.mem_of_getElem? (i := 580) (by decide +kernel), rfl⟩
theorem tb_581 : Cond.static ⟨"DearVotesModel", "in", "(III)Z"⟩ ∈ hx_ws := List.mem_filter.mpr ⟨List.mem_of_getElem? (i := 581) (by decide +kernel), rfl⟩
theorem tb_582 : Cond.code ⟨"DearVotesModel", "in", "(III)Z"⟩ prog_7_method_3_code 3 (Option.some Jvm.ClassFile.FieldType.boolean) ∈ hx_ws := List.mem_filter.mpr ⟨List.mem_of_getElem? (i := 582) (by decide +kernel), rfl⟩
theorem tb_583 : Cond.methodLink "DearVotesLaw" 22 ⟨"DearVotesModel", "question", "()I"⟩ ∈ hx_ws := List.mem_filter.mpr ⟨List.mem_of_getElem? (i := 583) (by decide +kernel), rfl⟩
theorem tb_584 : Cond.instanceMethod ⟨"DearVotesModel", "question", "()I"⟩ ∈ hx_ws := List.mem_filter.mpr ⟨List.mem_of_getElem? (i := 584) (by decide +kernel), rfl⟩
theorem tb_585 : Cond.selects "DearVotesModel" ⟨"DearVotesModel", "question", "()I"⟩ ⟨"DearVotesModel", "question", "()I"⟩ ∈ hx_ws := List.mem_filter.mpr ⟨List.mem_of_getElem? (i := 585) (by decide +kernel), rfl⟩
theorem tb_586 : Cond.code ⟨"DearVotesModel", "question", "()I"⟩ prog_7_method_8_code 1 (Option.some Jvm.ClassFile.FieldType.int) ∈ hx_ws := List.mem_filter.mpr ⟨List.mem_of_getElem? (i := 586) (by decide +kernel), rfl⟩
theorem tb_587 : Cond.methodLink "DearVotesLaw" 26 ⟨"DearVotesModel", "project", "()I"⟩ ∈ hx_ws := List.mem_filter.mpr ⟨List.mem_of_getElem? (i := 587) (by decide +kernel), rfl⟩
theorem tb_588 : Cond.instanceMethod ⟨"DearVotesModel", "project", "()I"⟩ ∈ hx_ws := List.mem_filter.mpr ⟨List.mem_of_getElem? (i := 588) (by decide +kernel), rfl⟩
theorem tb_589 : Cond.selects "DearVotesModel" ⟨"DearVotesModel", "project", "()I"⟩ ⟨"DearVotesModel", "project", "()I"⟩ ∈ hx_ws := List.mem_filter.mpr ⟨List.mem_of_getElem? (i := 589) (by decide +kernel), rfl⟩
theorem tb_590 : Cond.code ⟨"DearVotesModel", "project", "()I"⟩ prog_7_method_9_code 1 (Option.some Jvm.ClassFile.FieldType.int) ∈ hx_ws := List.mem_filter.mpr ⟨List.mem_of_getElem? (i := 590) (by decide +kernel), rfl⟩
theorem tb_591 : Cond.methodLink "DearVotesLaw" 30 ⟨"DearVotesModel", "seed", "(I)I"⟩ ∈ hx_ws := List.mem_filter.mpr ⟨List.mem_of_getElem? (i := 591) (by decide +kernel), rfl⟩
theorem tb_592 : Cond.instanceMethod ⟨"DearVotesModel", "seed", "(I)I"⟩ ∈ hx_ws := List.mem_filter.mpr ⟨List.mem_of_getElem? (i := 592) (by decide +kernel), rfl⟩
theorem tb_593 : Cond.selects "DearVotesModel" ⟨"DearVotesModel", "seed", "(I)I"⟩ ⟨"DearVotesModel", "seed", "(I)I"⟩ ∈ hx_ws := List.mem_filter.mpr ⟨List.mem_of_getElem? (i := 593) (by decide +kernel), rfl⟩
theorem tb_594 : Cond.code ⟨"DearVotesModel", "seed", "(I)I"⟩ prog_7_method_10_code 3 (Option.some Jvm.ClassFile.FieldType.int) ∈ hx_ws := List.mem_filter.mpr ⟨List.mem_of_getElem? (i := 594) (by decide +kernel), rfl⟩
theorem tb_595 : Cond.methodLink "DearVotesLaw" 35 ⟨"DearVotesModel", "vote", "(III)I"⟩ ∈ hx_ws := List.mem_filter.mpr ⟨List.mem_of_getElem? (i := 595) (by decide +kernel), rfl⟩
theorem tb_596 : Cond.instanceMethod ⟨"DearVotesModel", "vote", "(III)I"⟩ ∈ hx_ws := List.mem_filter.mpr ⟨List.mem_of_getElem? (i := 596) (by decide +kernel), rfl⟩
theorem tb_597 : Cond.selects "DearVotesModel" ⟨"DearVotesModel", "vote", "(III)I"⟩ ⟨"DearVotesModel", "vote", "(III)I"⟩ ∈ hx_ws := List.mem_filter.mpr ⟨List.mem_of_getElem? (i := 597) (by decide +kernel), rfl⟩
theorem tb_598 : Cond.code ⟨"DearVotesModel", "vote", "(III)I"⟩ prog_7_method_12_code 6 (Option.some Jvm.ClassFile.FieldType.int) ∈ hx_ws := List.mem_filter.mpr ⟨List.mem_of_getElem? (i := 598) (by decide +kernel), rfl⟩
theorem tb_599 : Cond.methodLink "DearVotesModel" 68 ⟨"DearVotesModel", "isPerson", "(I)Z"⟩ ∈ hx_ws := List.mem_filter.mpr ⟨List.mem_of_getElem? (i := 599) (by decide +kernel), rfl⟩
theorem tb_600 : Cond.privateMethod ⟨"DearVotesModel", "isPerson", "(I)Z"⟩ ∈ lw_tbl := List.mem_of_getElem? (i := 600) (by decide +kernel)
theorem tb_601 : Cond.instanceMethod ⟨"DearVotesModel", "isPerson", "(I)Z"⟩ ∈ hx_ws := List.mem_filter.mpr ⟨List.mem_of_getElem? (i := 601) (by decide +kernel), rfl⟩
theorem tb_602 : Cond.code ⟨"DearVotesModel", "isPerson", "(I)Z"⟩ prog_7_method_4_code 2 (Option.some Jvm.ClassFile.FieldType.boolean) ∈ hx_ws := List.mem_filter.mpr ⟨List.mem_of_getElem? (i := 602) (by decide +kernel), rfl⟩
theorem tb_603 : Cond.methodLink "DearVotesModel" 72 ⟨"DearVotesModel", "isQuestion", "(I)Z"⟩ ∈ hx_ws := List.mem_filter.mpr ⟨List.mem_of_getElem? (i := 603) (by decide +kernel), rfl⟩
theorem tb_604 : Cond.privateMethod ⟨"DearVotesModel", "isQuestion", "(I)Z"⟩ ∈ lw_tbl := List.mem_of_getElem? (i := 604) (by decide +kernel)
theorem tb_605 : Cond.instanceMethod ⟨"DearVotesModel", "isQuestion", "(I)Z"⟩ ∈ hx_ws := List.mem_filter.mpr ⟨List.mem_of_getElem? (i := 605) (by decide +kernel), rfl⟩
theorem tb_606 : Cond.code ⟨"DearVotesModel", "isQuestion", "(I)Z"⟩ prog_7_method_5_code 2 (Option.some Jvm.ClassFile.FieldType.boolean) ∈ hx_ws := List.mem_filter.mpr ⟨List.mem_of_getElem? (i := 606) (by decide +kernel), rfl⟩
theorem tb_607 : Cond.methodLink "DearVotesModel" 75 ⟨"DearVotesModel", "costOf", "(I)I"⟩ ∈ hx_ws := List.mem_filter.mpr ⟨List.mem_of_getElem? (i := 607) (by decide +kernel), rfl⟩
theorem tb_608 : Cond.privateMethod ⟨"DearVotesModel", "costOf", "(I)I"⟩ ∈ lw_tbl := List.mem_of_getElem? (i := 608) (by decide +kernel)
theorem tb_609 : Cond.instanceMethod ⟨"DearVotesModel", "costOf", "(I)I"⟩ ∈ hx_ws := List.mem_filter.mpr ⟨List.mem_of_getElem? (i := 609) (by decide +kernel), rfl⟩
theorem tb_610 : Cond.code ⟨"DearVotesModel", "costOf", "(I)I"⟩ prog_7_method_11_code 4 (Option.some Jvm.ClassFile.FieldType.int) ∈ hx_ws := List.mem_filter.mpr ⟨List.mem_of_getElem? (i := 610) (by decide +kernel), rfl⟩
theorem tb_611 : Cond.methodLink "DearVotesLaw" 39 ⟨"DearVotesModel", "worth", "(III)I"⟩ ∈ hx_ws := List.mem_filter.mpr ⟨List.mem_of_getElem? (i := 611) (by decide +kernel), rfl⟩
theorem tb_612 : Cond.instanceMethod ⟨"DearVotesModel", "worth", "(III)I"⟩ ∈ hx_ws := List.mem_filter.mpr ⟨List.mem_of_getElem? (i := 612) (by decide +kernel), rfl⟩
theorem tb_613 : Cond.selects "DearVotesModel" ⟨"DearVotesModel", "worth", "(III)I"⟩ ⟨"DearVotesModel", "worth", "(III)I"⟩ ∈ hx_ws := List.mem_filter.mpr ⟨List.mem_of_getElem? (i := 613) (by decide +kernel), rfl⟩
theorem tb_614 : Cond.code ⟨"DearVotesModel", "worth", "(III)I"⟩ prog_7_method_13_code 5 (Option.some Jvm.ClassFile.FieldType.int) ∈ hx_ws := List.mem_filter.mpr ⟨List.mem_of_getElem? (i := 614) (by decide +kernel), rfl⟩
theorem tb_615 : Cond.methodLink "DearVotesLaw" 44 ⟨"DearVotesModel", "here", "(IZ)I"⟩ ∈ hx_ws := List.mem_filter.mpr ⟨List.mem_of_getElem? (i := 615) (by decide +kernel), rfl⟩
theorem tb_616 : Cond.instanceMethod ⟨"DearVotesModel", "here", "(IZ)I"⟩ ∈ hx_ws := List.mem_filter.mpr ⟨List.mem_of_getElem? (i := 616) (by decide +kernel), rfl⟩
theorem tb_617 : Cond.selects "DearVotesModel" ⟨"DearVotesModel", "here", "(IZ)I"⟩ ⟨"DearVotesModel", "here", "(IZ)I"⟩ ∈ hx_ws := List.mem_filter.mpr ⟨List.mem_of_getElem? (i := 617) (by decide +kernel), rfl⟩
theorem tb_618 : Cond.code ⟨"DearVotesModel", "here", "(IZ)I"⟩ prog_7_method_14_code 4 (Option.some Jvm.ClassFile.FieldType.int) ∈ hx_ws := List.mem_filter.mpr ⟨List.mem_of_getElem? (i := 618) (by decide +kernel), rfl⟩
theorem tb_619 : Cond.methodLink "DearVotesLaw" 49 ⟨"DearVotesModel", "voices", "(II)I"⟩ ∈ hx_ws := List.mem_filter.mpr ⟨List.mem_of_getElem? (i := 619) (by decide +kernel), rfl⟩
theorem tb_620 : Cond.instanceMethod ⟨"DearVotesModel", "voices", "(II)I"⟩ ∈ hx_ws := List.mem_filter.mpr ⟨List.mem_of_getElem? (i := 620) (by decide +kernel), rfl⟩
theorem tb_621 : Cond.selects "DearVotesModel" ⟨"DearVotesModel", "voices", "(II)I"⟩ ⟨"DearVotesModel", "voices", "(II)I"⟩ ∈ hx_ws := List.mem_filter.mpr ⟨List.mem_of_getElem? (i := 621) (by decide +kernel), rfl⟩
theorem tb_622 : Cond.code ⟨"DearVotesModel", "voices", "(II)I"⟩ prog_7_method_15_code 3 (Option.some Jvm.ClassFile.FieldType.int) ∈ hx_ws := List.mem_filter.mpr ⟨List.mem_of_getElem? (i := 622) (by decide +kernel), rfl⟩
theorem tb_623 : Cond.methodLink "DearVotesLaw" 53 ⟨"DearVotesModel", "cost", "(I)I"⟩ ∈ hx_ws := List.mem_filter.mpr ⟨List.mem_of_getElem? (i := 623) (by decide +kernel), rfl⟩
theorem tb_624 : Cond.instanceMethod ⟨"DearVotesModel", "cost", "(I)I"⟩ ∈ hx_ws := List.mem_filter.mpr ⟨List.mem_of_getElem? (i := 624) (by decide +kernel), rfl⟩
theorem tb_625 : Cond.selects "DearVotesModel" ⟨"DearVotesModel", "cost", "(I)I"⟩ ⟨"DearVotesModel", "cost", "(I)I"⟩ ∈ hx_ws := List.mem_filter.mpr ⟨List.mem_of_getElem? (i := 625) (by decide +kernel), rfl⟩
theorem tb_626 : Cond.code ⟨"DearVotesModel", "cost", "(I)I"⟩ prog_7_method_16_code 2 (Option.some Jvm.ClassFile.FieldType.int) ∈ hx_ws := List.mem_filter.mpr ⟨List.mem_of_getElem? (i := 626) (by decide +kernel), rfl⟩
theorem tb_627 : Cond.methodLink "DearVotesLaw" 57 ⟨"DearVotesModel", "total", "(I)I"⟩ ∈ hx_ws := List.mem_filter.mpr ⟨List.mem_of_getElem? (i := 627) (by decide +kernel), rfl⟩
theorem tb_628 : Cond.instanceMethod ⟨"DearVotesModel", "total", "(I)I"⟩ ∈ hx_ws := List.mem_filter.mpr ⟨List.mem_of_getElem? (i := 628) (by decide +kernel), rfl⟩
theorem tb_629 : Cond.selects "DearVotesModel" ⟨"DearVotesModel", "total", "(I)I"⟩ ⟨"DearVotesModel", "total", "(I)I"⟩ ∈ hx_ws := List.mem_filter.mpr ⟨List.mem_of_getElem? (i := 629) (by decide +kernel), rfl⟩
theorem tb_630 : Cond.code ⟨"DearVotesModel", "total", "(I)I"⟩ prog_7_method_18_code 2 (Option.some Jvm.ClassFile.FieldType.int) ∈ hx_ws := List.mem_filter.mpr ⟨List.mem_of_getElem? (i := 630) (by decide +kernel), rfl⟩
theorem tb_631 : Cond.methodLink "DearVotesModel" 79 ⟨"DearVotesModel", "others", "(II)I"⟩ ∈ hx_ws := List.mem_filter.mpr ⟨List.mem_of_getElem? (i := 631) (by decide +kernel), rfl⟩
theorem tb_632 : Cond.privateMethod ⟨"DearVotesModel", "others", "(II)I"⟩ ∈ lw_tbl := List.mem_of_getElem? (i := 632) (by decide +kernel)
theorem tb_633 : Cond.instanceMethod ⟨"DearVotesModel", "others", "(II)I"⟩ ∈ hx_ws := List.mem_filter.mpr ⟨List.mem_of_getElem? (i := 633) (by decide +kernel), rfl⟩
theorem tb_634 : Cond.code ⟨"DearVotesModel", "others", "(II)I"⟩ prog_7_method_17_code 5 (Option.some Jvm.ClassFile.FieldType.int) ∈ hx_ws := List.mem_filter.mpr ⟨List.mem_of_getElem? (i := 634) (by decide +kernel), rfl⟩
theorem tb_635 : Cond.methodLink "DearVotesLaw" 61 ⟨"DearVotesModel", "result", "(I)I"⟩ ∈ hx_ws := List.mem_filter.mpr ⟨List.mem_of_getElem? (i := 635) (by decide +kernel), rfl⟩
theorem tb_636 : Cond.instanceMethod ⟨"DearVotesModel", "result", "(I)I"⟩ ∈ hx_ws := List.mem_filter.mpr ⟨List.mem_of_getElem? (i := 636) (by decide +kernel), rfl⟩
theorem tb_637 : Cond.selects "DearVotesModel" ⟨"DearVotesModel", "result", "(I)I"⟩ ⟨"DearVotesModel", "result", "(I)I"⟩ ∈ hx_ws := List.mem_filter.mpr ⟨List.mem_of_getElem? (i := 637) (by decide +kernel), rfl⟩
theorem tb_638 : Cond.code ⟨"DearVotesModel", "result", "(I)I"⟩ prog_7_method_20_code 2 (Option.some Jvm.ClassFile.FieldType.int) ∈ hx_ws := List.mem_filter.mpr ⟨List.mem_of_getElem? (i := 638) (by decide +kernel), rfl⟩
theorem tb_639 : Cond.methodLink "DearVotesModel" 85 ⟨"DearVotesModel", "resultOf", "(II)I"⟩ ∈ hx_ws := List.mem_filter.mpr ⟨List.mem_of_getElem? (i := 639) (by decide +kernel), rfl⟩
theorem tb_640 : Cond.privateMethod ⟨"DearVotesModel", "resultOf", "(II)I"⟩ ∈ lw_tbl := List.mem_of_getElem? (i := 640) (by decide +kernel)
theorem tb_641 : Cond.instanceMethod ⟨"DearVotesModel", "resultOf", "(II)I"⟩ ∈ hx_ws := List.mem_filter.mpr ⟨List.mem_of_getElem? (i := 641) (by decide +kernel), rfl⟩
theorem tb_642 : Cond.code ⟨"DearVotesModel", "resultOf", "(II)I"⟩ prog_7_method_19_code 5 (Option.some Jvm.ClassFile.FieldType.int) ∈ hx_ws := List.mem_filter.mpr ⟨List.mem_of_getElem? (i := 642) (by decide +kernel), rfl⟩
theorem tb_643 : Cond.constant "DearVotesModel" 83 1664525 ∈ hx_ws := List.mem_filter.mpr ⟨List.mem_of_getElem? (i := 643) (by decide +kernel), rfl⟩
theorem tb_644 : Cond.constant "DearVotesModel" 84 1013904223 ∈ hx_ws := List.mem_filter.mpr ⟨List.mem_of_getElem? (i := 644) (by decide +kernel), rfl⟩
theorem tb_645 : Cond.methodLink "DearVotesLaw" 65 ⟨"DearVotesModel", "gain", "(I)I"⟩ ∈ hx_ws := List.mem_filter.mpr ⟨List.mem_of_getElem? (i := 645) (by decide +kernel), rfl⟩
theorem tb_646 : Cond.instanceMethod ⟨"DearVotesModel", "gain", "(I)I"⟩ ∈ hx_ws := List.mem_filter.mpr ⟨List.mem_of_getElem? (i := 646) (by decide +kernel), rfl⟩
theorem tb_647 : Cond.selects "DearVotesModel" ⟨"DearVotesModel", "gain", "(I)I"⟩ ⟨"DearVotesModel", "gain", "(I)I"⟩ ∈ hx_ws := List.mem_filter.mpr ⟨List.mem_of_getElem? (i := 647) (by decide +kernel), rfl⟩
theorem tb_648 : Cond.code ⟨"DearVotesModel", "gain", "(I)I"⟩ prog_7_method_23_code 2 (Option.some Jvm.ClassFile.FieldType.int) ∈ hx_ws := List.mem_filter.mpr ⟨List.mem_of_getElem? (i := 648) (by decide +kernel), rfl⟩
theorem tb_649 : Cond.methodLink "DearVotesModel" 91 ⟨"DearVotesModel", "gainOf", "(I)I"⟩ ∈ hx_ws := List.mem_filter.mpr ⟨List.mem_of_getElem? (i := 649) (by decide +kernel), rfl⟩
theorem tb_650 : Cond.privateMethod ⟨"DearVotesModel", "gainOf", "(I)I"⟩ ∈ lw_tbl := List.mem_of_getElem? (i := 650) (by decide +kernel)
theorem tb_651 : Cond.instanceMethod ⟨"DearVotesModel", "gainOf", "(I)I"⟩ ∈ hx_ws := List.mem_filter.mpr ⟨List.mem_of_getElem? (i := 651) (by decide +kernel), rfl⟩
theorem tb_652 : Cond.code ⟨"DearVotesModel", "gainOf", "(I)I"⟩ prog_7_method_22_code 4 (Option.some Jvm.ClassFile.FieldType.int) ∈ hx_ws := List.mem_filter.mpr ⟨List.mem_of_getElem? (i := 652) (by decide +kernel), rfl⟩
theorem tb_653 : Cond.methodLink "DearVotesModel" 88 ⟨"DearVotesModel", "gainBy", "(II)I"⟩ ∈ hx_ws := List.mem_filter.mpr ⟨List.mem_of_getElem? (i := 653) (by decide +kernel), rfl⟩
theorem tb_654 : Cond.static ⟨"DearVotesModel", "gainBy", "(II)I"⟩ ∈ hx_ws := List.mem_filter.mpr ⟨List.mem_of_getElem? (i := 654) (by decide +kernel), rfl⟩
theorem tb_655 : Cond.code ⟨"DearVotesModel", "gainBy", "(II)I"⟩ prog_7_method_21_code 2 (Option.some Jvm.ClassFile.FieldType.int) ∈ hx_ws := List.mem_filter.mpr ⟨List.mem_of_getElem? (i := 655) (by decide +kernel), rfl⟩
theorem tb_656 : Cond.constant "DearVotesModel" 94 (-2000000) ∈ hx_ws := List.mem_filter.mpr ⟨List.mem_of_getElem? (i := 656) (by decide +kernel), rfl⟩
theorem tb_657 : Cond.methodLink "DearVotesLaw" 69 ⟨"DearVotesModel", "swings", "(I)I"⟩ ∈ hx_ws := List.mem_filter.mpr ⟨List.mem_of_getElem? (i := 657) (by decide +kernel), rfl⟩
theorem tb_658 : Cond.instanceMethod ⟨"DearVotesModel", "swings", "(I)I"⟩ ∈ hx_ws := List.mem_filter.mpr ⟨List.mem_of_getElem? (i := 658) (by decide +kernel), rfl⟩
theorem tb_659 : Cond.selects "DearVotesModel" ⟨"DearVotesModel", "swings", "(I)I"⟩ ⟨"DearVotesModel", "swings", "(I)I"⟩ ∈ hx_ws := List.mem_filter.mpr ⟨List.mem_of_getElem? (i := 659) (by decide +kernel), rfl⟩
theorem tb_660 : Cond.code ⟨"DearVotesModel", "swings", "(I)I"⟩ prog_7_method_24_code 5 (Option.some Jvm.ClassFile.FieldType.int) ∈ hx_ws := List.mem_filter.mpr ⟨List.mem_of_getElem? (i := 660) (by decide +kernel), rfl⟩
theorem tb_661 : Cond.methodLink "DearVotesLaw" 73 ⟨"DearVotesModel", "best", "(I)I"⟩ ∈ hx_ws := List.mem_filter.mpr ⟨List.mem_of_getElem? (i := 661) (by decide +kernel), rfl⟩
theorem tb_662 : Cond.instanceMethod ⟨"DearVotesModel", "best", "(I)I"⟩ ∈ hx_ws := List.mem_filter.mpr ⟨List.mem_of_getElem? (i := 662) (by decide +kernel), rfl⟩
theorem tb_663 : Cond.selects "DearVotesModel" ⟨"DearVotesModel", "best", "(I)I"⟩ ⟨"DearVotesModel", "best", "(I)I"⟩ ∈ hx_ws := List.mem_filter.mpr ⟨List.mem_of_getElem? (i := 663) (by decide +kernel), rfl⟩
theorem tb_664 : Cond.code ⟨"DearVotesModel", "best", "(I)I"⟩ prog_7_method_28_code 2 (Option.some Jvm.ClassFile.FieldType.int) ∈ hx_ws := List.mem_filter.mpr ⟨List.mem_of_getElem? (i := 664) (by decide +kernel), rfl⟩
theorem tb_665 : Cond.methodLink "DearVotesModel" 113 ⟨"DearVotesModel", "find", "(I)V"⟩ ∈ hx_ws := List.mem_filter.mpr ⟨List.mem_of_getElem? (i := 665) (by decide +kernel), rfl⟩
theorem tb_666 : Cond.privateMethod ⟨"DearVotesModel", "find", "(I)V"⟩ ∈ lw_tbl := List.mem_of_getElem? (i := 666) (by decide +kernel)
theorem tb_667 : Cond.instanceMethod ⟨"DearVotesModel", "find", "(I)V"⟩ ∈ hx_ws := List.mem_filter.mpr ⟨List.mem_of_getElem? (i := 667) (by decide +kernel), rfl⟩
theorem tb_668 : Cond.code ⟨"DearVotesModel", "find", "(I)V"⟩ prog_7_method_27_code 11 (Option.none : Option Jvm.ClassFile.FieldType) ∈ hx_ws := List.mem_filter.mpr ⟨List.mem_of_getElem? (i := 668) (by decide +kernel), rfl⟩
theorem tb_669 : Cond.methodLink "DearVotesModel" 105 ⟨"DearVotesModel", "end", "(II)V"⟩ ∈ hx_ws := List.mem_filter.mpr ⟨List.mem_of_getElem? (i := 669) (by decide +kernel), rfl⟩
theorem tb_670 : Cond.privateMethod ⟨"DearVotesModel", "end", "(II)V"⟩ ∈ lw_tbl := List.mem_of_getElem? (i := 670) (by decide +kernel)
theorem tb_671 : Cond.instanceMethod ⟨"DearVotesModel", "end", "(II)V"⟩ ∈ hx_ws := List.mem_filter.mpr ⟨List.mem_of_getElem? (i := 671) (by decide +kernel), rfl⟩
theorem tb_672 : Cond.code ⟨"DearVotesModel", "end", "(II)V"⟩ prog_7_method_25_code 3 (Option.none : Option Jvm.ClassFile.FieldType) ∈ hx_ws := List.mem_filter.mpr ⟨List.mem_of_getElem? (i := 672) (by decide +kernel), rfl⟩
theorem tb_673 : Cond.methodLink "DearVotesModel" 109 ⟨"DearVotesModel", "isBetter", "(II)Z"⟩ ∈ hx_ws := List.mem_filter.mpr ⟨List.mem_of_getElem? (i := 673) (by decide +kernel), rfl⟩
theorem tb_674 : Cond.privateMethod ⟨"DearVotesModel", "isBetter", "(II)Z"⟩ ∈ lw_tbl := List.mem_of_getElem? (i := 674) (by decide +kernel)
theorem tb_675 : Cond.instanceMethod ⟨"DearVotesModel", "isBetter", "(II)Z"⟩ ∈ hx_ws := List.mem_filter.mpr ⟨List.mem_of_getElem? (i := 675) (by decide +kernel), rfl⟩
theorem tb_676 : Cond.code ⟨"DearVotesModel", "isBetter", "(II)Z"⟩ prog_7_method_26_code 4 (Option.some Jvm.ClassFile.FieldType.boolean) ∈ hx_ws := List.mem_filter.mpr ⟨List.mem_of_getElem? (i := 676) (by decide +kernel), rfl⟩
theorem tb_677 : Cond.methodLink "DearVotesLaw" 77 ⟨"DearVotesModel", "answer", "(II)I"⟩ ∈ hx_ws := List.mem_filter.mpr ⟨List.mem_of_getElem? (i := 677) (by decide +kernel), rfl⟩
theorem tb_678 : Cond.instanceMethod ⟨"DearVotesModel", "answer", "(II)I"⟩ ∈ hx_ws := List.mem_filter.mpr ⟨List.mem_of_getElem? (i := 678) (by decide +kernel), rfl⟩
theorem tb_679 : Cond.selects "DearVotesModel" ⟨"DearVotesModel", "answer", "(II)I"⟩ ⟨"DearVotesModel", "answer", "(II)I"⟩ ∈ hx_ws := List.mem_filter.mpr ⟨List.mem_of_getElem? (i := 679) (by decide +kernel), rfl⟩
theorem tb_680 : Cond.code ⟨"DearVotesModel", "answer", "(II)I"⟩ prog_7_method_29_code 3 (Option.some Jvm.ClassFile.FieldType.int) ∈ hx_ws := List.mem_filter.mpr ⟨List.mem_of_getElem? (i := 680) (by decide +kernel), rfl⟩
theorem tb_681 : Cond.methodLink "DearVotesLaw" 81 ⟨"DearVotesModel", "take", "(I)I"⟩ ∈ hx_ws := List.mem_filter.mpr ⟨List.mem_of_getElem? (i := 681) (by decide +kernel), rfl⟩
theorem tb_682 : Cond.instanceMethod ⟨"DearVotesModel", "take", "(I)I"⟩ ∈ hx_ws := List.mem_filter.mpr ⟨List.mem_of_getElem? (i := 682) (by decide +kernel), rfl⟩
theorem tb_683 : Cond.selects "DearVotesModel" ⟨"DearVotesModel", "take", "(I)I"⟩ ⟨"DearVotesModel", "take", "(I)I"⟩ ∈ hx_ws := List.mem_filter.mpr ⟨List.mem_of_getElem? (i := 683) (by decide +kernel), rfl⟩
theorem tb_684 : Cond.code ⟨"DearVotesModel", "take", "(I)I"⟩ prog_7_method_31_code 2 (Option.some Jvm.ClassFile.FieldType.int) ∈ hx_ws := List.mem_filter.mpr ⟨List.mem_of_getElem? (i := 684) (by decide +kernel), rfl⟩
theorem tb_685 : Cond.methodLink "DearVotesModel" 117 ⟨"DearVotesModel", "adopt", "(I)V"⟩ ∈ hx_ws := List.mem_filter.mpr ⟨List.mem_of_getElem? (i := 685) (by decide +kernel), rfl⟩
theorem tb_686 : Cond.privateMethod ⟨"DearVotesModel", "adopt", "(I)V"⟩ ∈ lw_tbl := List.mem_of_getElem? (i := 686) (by decide +kernel)
theorem tb_687 : Cond.instanceMethod ⟨"DearVotesModel", "adopt", "(I)V"⟩ ∈ hx_ws := List.mem_filter.mpr ⟨List.mem_of_getElem? (i := 687) (by decide +kernel), rfl⟩
theorem tb_688 : Cond.code ⟨"DearVotesModel", "adopt", "(I)V"⟩ prog_7_method_30_code 3 (Option.none : Option Jvm.ClassFile.FieldType) ∈ hx_ws := List.mem_filter.mpr ⟨List.mem_of_getElem? (i := 688) (by decide +kernel), rfl⟩
theorem tb_689 : Cond.methodLink "DearVotesLaw" 85 ⟨"DearVotesModel", "play", "(I)I"⟩ ∈ hx_ws := List.mem_filter.mpr ⟨List.mem_of_getElem? (i := 689) (by decide +kernel), rfl⟩
theorem tb_690 : Cond.instanceMethod ⟨"DearVotesModel", "play", "(I)I"⟩ ∈ hx_ws := List.mem_filter.mpr ⟨List.mem_of_getElem? (i := 690) (by decide +kernel), rfl⟩
theorem tb_691 : Cond.selects "DearVotesModel" ⟨"DearVotesModel", "play", "(I)I"⟩ ⟨"DearVotesModel", "play", "(I)I"⟩ ∈ hx_ws := List.mem_filter.mpr ⟨List.mem_of_getElem? (i := 691) (by decide +kernel), rfl⟩
theorem tb_692 : Cond.code ⟨"DearVotesModel", "play", "(I)I"⟩ prog_7_method_34_code 5 (Option.some Jvm.ClassFile.FieldType.int) ∈ hx_ws := List.mem_filter.mpr ⟨List.mem_of_getElem? (i := 692) (by decide +kernel), rfl⟩
theorem tb_693 : Cond.methodLink "DearVotesModel" 126 ⟨"DearVotesModel", "keep", "(I)V"⟩ ∈ hx_ws := List.mem_filter.mpr ⟨List.mem_of_getElem? (i := 693) (by decide +kernel), rfl⟩
theorem tb_694 : Cond.privateMethod ⟨"DearVotesModel", "keep", "(I)V"⟩ ∈ lw_tbl := List.mem_of_getElem? (i := 694) (by decide +kernel)
theorem tb_695 : Cond.instanceMethod ⟨"DearVotesModel", "keep", "(I)V"⟩ ∈ hx_ws := List.mem_filter.mpr ⟨List.mem_of_getElem? (i := 695) (by decide +kernel), rfl⟩
theorem tb_696 : Cond.code ⟨"DearVotesModel", "keep", "(I)V"⟩ prog_7_method_33_code 3 (Option.none : Option Jvm.ClassFile.FieldType) ∈ hx_ws := List.mem_filter.mpr ⟨List.mem_of_getElem? (i := 696) (by decide +kernel), rfl⟩
theorem tb_697 : Cond.methodLink "DearVotesModel" 135 ⟨"DearVotesModel", "isAsBehind", "(I)Z"⟩ ∈ hx_ws := List.mem_filter.mpr ⟨List.mem_of_getElem? (i := 697) (by decide +kernel), rfl⟩
theorem tb_698 : Cond.privateMethod ⟨"DearVotesModel", "isAsBehind", "(I)Z"⟩ ∈ lw_tbl := List.mem_of_getElem? (i := 698) (by decide +kernel)
theorem tb_699 : Cond.instanceMethod ⟨"DearVotesModel", "isAsBehind", "(I)Z"⟩ ∈ hx_ws := List.mem_filter.mpr ⟨List.mem_of_getElem? (i := 699) (by decide +kernel), rfl⟩
theorem tb_700 : Cond.code ⟨"DearVotesModel", "isAsBehind", "(I)Z"⟩ prog_7_method_32_code 4 (Option.some Jvm.ClassFile.FieldType.boolean) ∈ hx_ws := List.mem_filter.mpr ⟨List.mem_of_getElem? (i := 700) (by decide +kernel), rfl⟩
theorem tb_701 : Cond.methodLink "DearVotesLaw" 89 ⟨"DearVotesModel", "ended", "()I"⟩ ∈ hx_ws := List.mem_filter.mpr ⟨List.mem_of_getElem? (i := 701) (by decide +kernel), rfl⟩
theorem tb_702 : Cond.instanceMethod ⟨"DearVotesModel", "ended", "()I"⟩ ∈ hx_ws := List.mem_filter.mpr ⟨List.mem_of_getElem? (i := 702) (by decide +kernel), rfl⟩
theorem tb_703 : Cond.selects "DearVotesModel" ⟨"DearVotesModel", "ended", "()I"⟩ ⟨"DearVotesModel", "ended", "()I"⟩ ∈ hx_ws := List.mem_filter.mpr ⟨List.mem_of_getElem? (i := 703) (by decide +kernel), rfl⟩
theorem tb_704 : Cond.code ⟨"DearVotesModel", "ended", "()I"⟩ prog_7_method_35_code 1 (Option.some Jvm.ClassFile.FieldType.int) ∈ hx_ws := List.mem_filter.mpr ⟨List.mem_of_getElem? (i := 704) (by decide +kernel), rfl⟩
theorem tb_705 : Cond.methodLink "DearVotesLaw" 93 ⟨"DearVotesModel", "ring", "()I"⟩ ∈ hx_ws := List.mem_filter.mpr ⟨List.mem_of_getElem? (i := 705) (by decide +kernel), rfl⟩
theorem tb_706 : Cond.instanceMethod ⟨"DearVotesModel", "ring", "()I"⟩ ∈ hx_ws := List.mem_filter.mpr ⟨List.mem_of_getElem? (i := 706) (by decide +kernel), rfl⟩
theorem tb_707 : Cond.selects "DearVotesModel" ⟨"DearVotesModel", "ring", "()I"⟩ ⟨"DearVotesModel", "ring", "()I"⟩ ∈ hx_ws := List.mem_filter.mpr ⟨List.mem_of_getElem? (i := 707) (by decide +kernel), rfl⟩
theorem tb_708 : Cond.code ⟨"DearVotesModel", "ring", "()I"⟩ prog_7_method_36_code 1 (Option.some Jvm.ClassFile.FieldType.int) ∈ hx_ws := List.mem_filter.mpr ⟨List.mem_of_getElem? (i := 708) (by decide +kernel), rfl⟩
theorem tb_709 : Cond.methodLink "DearVotesLaw" 97 ⟨"DearVotesModel", "gift", "(III)I"⟩ ∈ hx_ws := List.mem_filter.mpr ⟨List.mem_of_getElem? (i := 709) (by decide +kernel), rfl⟩
theorem tb_710 : Cond.instanceMethod ⟨"DearVotesModel", "gift", "(III)I"⟩ ∈ hx_ws := List.mem_filter.mpr ⟨List.mem_of_getElem? (i := 710) (by decide +kernel), rfl⟩
theorem tb_711 : Cond.selects "DearVotesModel" ⟨"DearVotesModel", "gift", "(III)I"⟩ ⟨"DearVotesModel", "gift", "(III)I"⟩ ∈ hx_ws := List.mem_filter.mpr ⟨List.mem_of_getElem? (i := 711) (by decide +kernel), rfl⟩
theorem tb_712 : Cond.code ⟨"DearVotesModel", "gift", "(III)I"⟩ prog_7_method_37_code 5 (Option.some Jvm.ClassFile.FieldType.int) ∈ hx_ws := List.mem_filter.mpr ⟨List.mem_of_getElem? (i := 712) (by decide +kernel), rfl⟩
theorem tb_713 : Cond.methodLink "DearVotesModel" 138 ⟨"DearVotesModel", "isProject", "(I)Z"⟩ ∈ hx_ws := List.mem_filter.mpr ⟨List.mem_of_getElem? (i := 713) (by decide +kernel), rfl⟩
theorem tb_714 : Cond.privateMethod ⟨"DearVotesModel", "isProject", "(I)Z"⟩ ∈ lw_tbl := List.mem_of_getElem? (i := 714) (by decide +kernel)
theorem tb_715 : Cond.instanceMethod ⟨"DearVotesModel", "isProject", "(I)Z"⟩ ∈ hx_ws := List.mem_filter.mpr ⟨List.mem_of_getElem? (i := 715) (by decide +kernel), rfl⟩
theorem tb_716 : Cond.code ⟨"DearVotesModel", "isProject", "(I)Z"⟩ prog_7_method_6_code 2 (Option.some Jvm.ClassFile.FieldType.boolean) ∈ hx_ws := List.mem_filter.mpr ⟨List.mem_of_getElem? (i := 716) (by decide +kernel), rfl⟩
theorem tb_717 : Cond.constant "DearVotesModel" 141 1000000 ∈ hx_ws := List.mem_filter.mpr ⟨List.mem_of_getElem? (i := 717) (by decide +kernel), rfl⟩
theorem tb_718 : Cond.methodLink "DearVotesLaw" 101 ⟨"DearVotesModel", "bond", "(III)I"⟩ ∈ hx_ws := List.mem_filter.mpr ⟨List.mem_of_getElem? (i := 718) (by decide +kernel), rfl⟩
theorem tb_719 : Cond.instanceMethod ⟨"DearVotesModel", "bond", "(III)I"⟩ ∈ hx_ws := List.mem_filter.mpr ⟨List.mem_of_getElem? (i := 719) (by decide +kernel), rfl⟩
theorem tb_720 : Cond.selects "DearVotesModel" ⟨"DearVotesModel", "bond", "(III)I"⟩ ⟨"DearVotesModel", "bond", "(III)I"⟩ ∈ hx_ws := List.mem_filter.mpr ⟨List.mem_of_getElem? (i := 720) (by decide +kernel), rfl⟩
theorem tb_721 : Cond.code ⟨"DearVotesModel", "bond", "(III)I"⟩ prog_7_method_38_code 5 (Option.some Jvm.ClassFile.FieldType.int) ∈ hx_ws := List.mem_filter.mpr ⟨List.mem_of_getElem? (i := 721) (by decide +kernel), rfl⟩
theorem tb_722 : Cond.methodLink "DearVotesLaw" 106 ⟨"DearVotesModel", "matched", "(II)J"⟩ ∈ hx_ws := List.mem_filter.mpr ⟨List.mem_of_getElem? (i := 722) (by decide +kernel), rfl⟩
theorem tb_723 : Cond.instanceMethod ⟨"DearVotesModel", "matched", "(II)J"⟩ ∈ hx_ws := List.mem_filter.mpr ⟨List.mem_of_getElem? (i := 723) (by decide +kernel), rfl⟩
theorem tb_724 : Cond.selects "DearVotesModel" ⟨"DearVotesModel", "matched", "(II)J"⟩ ⟨"DearVotesModel", "matched", "(II)J"⟩ ∈ hx_ws := List.mem_filter.mpr ⟨List.mem_of_getElem? (i := 724) (by decide +kernel), rfl⟩
theorem tb_725 : Cond.code ⟨"DearVotesModel", "matched", "(II)J"⟩ prog_7_method_41_code 3 (Option.some Jvm.ClassFile.FieldType.long) ∈ hx_ws := List.mem_filter.mpr ⟨List.mem_of_getElem? (i := 725) (by decide +kernel), rfl⟩
theorem tb_726 : Cond.constantLong "DearVotesModel" 156 (-101) ∈ hx_ws := List.mem_filter.mpr ⟨List.mem_of_getElem? (i := 726) (by decide +kernel), rfl⟩
theorem tb_727 : Cond.methodLink "DearVotesModel" 158 ⟨"DearVotesModel", "matchedOf", "(IIZ)J"⟩ ∈ hx_ws := List.mem_filter.mpr ⟨List.mem_of_getElem? (i := 727) (by decide +kernel), rfl⟩
theorem tb_728 : Cond.privateMethod ⟨"DearVotesModel", "matchedOf", "(IIZ)J"⟩ ∈ lw_tbl := List.mem_of_getElem? (i := 728) (by decide +kernel)
theorem tb_729 : Cond.instanceMethod ⟨"DearVotesModel", "matchedOf", "(IIZ)J"⟩ ∈ hx_ws := List.mem_filter.mpr ⟨List.mem_of_getElem? (i := 729) (by decide +kernel), rfl⟩
theorem tb_730 : Cond.code ⟨"DearVotesModel", "matchedOf", "(IIZ)J"⟩ prog_7_method_40_code 14 (Option.some Jvm.ClassFile.FieldType.long) ∈ hx_ws := List.mem_filter.mpr ⟨List.mem_of_getElem? (i := 730) (by decide +kernel), rfl⟩
theorem tb_731 : Cond.constantLong "DearVotesModel" 142 65536 ∈ hx_ws := List.mem_filter.mpr ⟨List.mem_of_getElem? (i := 731) (by decide +kernel), rfl⟩
theorem tb_732 : Cond.constantLong "DearVotesModel" 144 1000 ∈ hx_ws := List.mem_filter.mpr ⟨List.mem_of_getElem? (i := 732) (by decide +kernel), rfl⟩
theorem tb_733 : Cond.methodLink "DearVotesModel" 146 ⟨"DearVotesModel", "root", "(J)J"⟩ ∈ hx_ws := List.mem_filter.mpr ⟨List.mem_of_getElem? (i := 733) (by decide +kernel), rfl⟩
theorem tb_734 : Cond.static ⟨"DearVotesModel", "root", "(J)J"⟩ ∈ hx_ws := List.mem_filter.mpr ⟨List.mem_of_getElem? (i := 734) (by decide +kernel), rfl⟩
theorem tb_735 : Cond.code ⟨"DearVotesModel", "root", "(J)J"⟩ prog_7_method_39_code 7 (Option.some Jvm.ClassFile.FieldType.long) ∈ hx_ws := List.mem_filter.mpr ⟨List.mem_of_getElem? (i := 735) (by decide +kernel), rfl⟩
theorem tb_736 : Cond.constantLong "DearVotesModel" 150 2 ∈ hx_ws := List.mem_filter.mpr ⟨List.mem_of_getElem? (i := 736) (by decide +kernel), rfl⟩
theorem tb_737 : Cond.constantLong "DearVotesModel" 152 255999 ∈ hx_ws := List.mem_filter.mpr ⟨List.mem_of_getElem? (i := 737) (by decide +kernel), rfl⟩
theorem tb_738 : Cond.constantLong "DearVotesModel" 154 256000 ∈ hx_ws := List.mem_filter.mpr ⟨List.mem_of_getElem? (i := 738) (by decide +kernel), rfl⟩
theorem tb_739 : Cond.constantLong "DearVotesModel" 162 (-102) ∈ hx_ws := List.mem_filter.mpr ⟨List.mem_of_getElem? (i := 739) (by decide +kernel), rfl⟩
theorem tb_740 : Cond.methodLink "DearVotesLaw" 113 ⟨"DearVotesModel", "share", "(IJ)J"⟩ ∈ hx_ws := List.mem_filter.mpr ⟨List.mem_of_getElem? (i := 740) (by decide +kernel), rfl⟩
theorem tb_741 : Cond.instanceMethod ⟨"DearVotesModel", "share", "(IJ)J"⟩ ∈ hx_ws := List.mem_filter.mpr ⟨List.mem_of_getElem? (i := 741) (by decide +kernel), rfl⟩
theorem tb_742 : Cond.selects "DearVotesModel" ⟨"DearVotesModel", "share", "(IJ)J"⟩ ⟨"DearVotesModel", "share", "(IJ)J"⟩ ∈ hx_ws := List.mem_filter.mpr ⟨List.mem_of_getElem? (i := 742) (by decide +kernel), rfl⟩
theorem tb_743 : Cond.code ⟨"DearVotesModel", "share", "(IJ)J"⟩ prog_7_method_42_code 10 (Option.some Jvm.ClassFile.FieldType.long) ∈ hx_ws := List.mem_filter.mpr ⟨List.mem_of_getElem? (i := 743) (by decide +kernel), rfl⟩
theorem tb_744 : Cond.constantLong "DearVotesModel" 164 1000000000 ∈ hx_ws := List.mem_filter.mpr ⟨List.mem_of_getElem? (i := 744) (by decide +kernel), rfl⟩
theorem tb_745 : Cond.constantLong "DearVotesModel" 166 (-1) ∈ hx_ws := List.mem_filter.mpr ⟨List.mem_of_getElem? (i := 745) (by decide +kernel), rfl⟩
theorem tb_746 : Cond.methodLink "DearVotesLaw" 118 ⟨"DearVotesModel", "damped", "(I)J"⟩ ∈ hx_ws := List.mem_filter.mpr ⟨List.mem_of_getElem? (i := 746) (by decide +kernel), rfl⟩
theorem tb_747 : Cond.instanceMethod ⟨"DearVotesModel", "damped", "(I)J"⟩ ∈ hx_ws := List.mem_filter.mpr ⟨List.mem_of_getElem? (i := 747) (by decide +kernel), rfl⟩
theorem tb_748 : Cond.selects "DearVotesModel" ⟨"DearVotesModel", "damped", "(I)J"⟩ ⟨"DearVotesModel", "damped", "(I)J"⟩ ∈ hx_ws := List.mem_filter.mpr ⟨List.mem_of_getElem? (i := 748) (by decide +kernel), rfl⟩
theorem tb_749 : Cond.code ⟨"DearVotesModel", "damped", "(I)J"⟩ prog_7_method_43_code 2 (Option.some Jvm.ClassFile.FieldType.long) ∈ hx_ws := List.mem_filter.mpr ⟨List.mem_of_getElem? (i := 749) (by decide +kernel), rfl⟩
theorem tb_750 : Cond.methodLink "DearVotesLaw" 122 ⟨"DearVotesModel", "likeness", "(II)I"⟩ ∈ hx_ws := List.mem_filter.mpr ⟨List.mem_of_getElem? (i := 750) (by decide +kernel), rfl⟩
theorem tb_751 : Cond.instanceMethod ⟨"DearVotesModel", "likeness", "(II)I"⟩ ∈ hx_ws := List.mem_filter.mpr ⟨List.mem_of_getElem? (i := 751) (by decide +kernel), rfl⟩
theorem tb_752 : Cond.selects "DearVotesModel" ⟨"DearVotesModel", "likeness", "(II)I"⟩ ⟨"DearVotesModel", "likeness", "(II)I"⟩ ∈ hx_ws := List.mem_filter.mpr ⟨List.mem_of_getElem? (i := 752) (by decide +kernel), rfl⟩
theorem tb_753 : Cond.code ⟨"DearVotesModel", "likeness", "(II)I"⟩ prog_7_method_45_code 3 (Option.some Jvm.ClassFile.FieldType.int) ∈ hx_ws := List.mem_filter.mpr ⟨List.mem_of_getElem? (i := 753) (by decide +kernel), rfl⟩
theorem tb_754 : Cond.methodLink "DearVotesModel" 168 ⟨"DearVotesModel", "likenessOf", "(II)I"⟩ ∈ hx_ws := List.mem_filter.mpr ⟨List.mem_of_getElem? (i := 754) (by decide +kernel), rfl⟩
theorem tb_755 : Cond.privateMethod ⟨"DearVotesModel", "likenessOf", "(II)I"⟩ ∈ lw_tbl := List.mem_of_getElem? (i := 755) (by decide +kernel)
theorem tb_756 : Cond.instanceMethod ⟨"DearVotesModel", "likenessOf", "(II)I"⟩ ∈ hx_ws := List.mem_filter.mpr ⟨List.mem_of_getElem? (i := 756) (by decide +kernel), rfl⟩
theorem tb_757 : Cond.code ⟨"DearVotesModel", "likenessOf", "(II)I"⟩ prog_7_method_44_code 8 (Option.some Jvm.ClassFile.FieldType.int) ∈ hx_ws := List.mem_filter.mpr ⟨List.mem_of_getElem? (i := 757) (by decide +kernel), rfl⟩
theorem tb_758 : Cond.methodLink "DearVotesLaw" 126 ⟨"DearVotesModel", "group", "(II)I"⟩ ∈ hx_ws := List.mem_filter.mpr ⟨List.mem_of_getElem? (i := 758) (by decide +kernel), rfl⟩
theorem tb_759 : Cond.instanceMethod ⟨"DearVotesModel", "group", "(II)I"⟩ ∈ hx_ws := List.mem_filter.mpr ⟨List.mem_of_getElem? (i := 759) (by decide +kernel), rfl⟩
theorem tb_760 : Cond.selects "DearVotesModel" ⟨"DearVotesModel", "group", "(II)I"⟩ ⟨"DearVotesModel", "group", "(II)I"⟩ ∈ hx_ws := List.mem_filter.mpr ⟨List.mem_of_getElem? (i := 760) (by decide +kernel), rfl⟩
theorem tb_761 : Cond.code ⟨"DearVotesModel", "group", "(II)I"⟩ prog_7_method_46_code 7 (Option.some Jvm.ClassFile.FieldType.int) ∈ hx_ws := List.mem_filter.mpr ⟨List.mem_of_getElem? (i := 761) (by decide +kernel), rfl⟩
theorem tb_762 : Cond.methodLink "DearVotesLaw" 130 ⟨"DearVotesModel", "count", "(I)I"⟩ ∈ hx_ws := List.mem_filter.mpr ⟨List.mem_of_getElem? (i := 762) (by decide +kernel), rfl⟩
theorem tb_763 : Cond.instanceMethod ⟨"DearVotesModel", "count", "(I)I"⟩ ∈ hx_ws := List.mem_filter.mpr ⟨List.mem_of_getElem? (i := 763) (by decide +kernel), rfl⟩
theorem tb_764 : Cond.selects "DearVotesModel" ⟨"DearVotesModel", "count", "(I)I"⟩ ⟨"DearVotesModel", "count", "(I)I"⟩ ∈ hx_ws := List.mem_filter.mpr ⟨List.mem_of_getElem? (i := 764) (by decide +kernel), rfl⟩
theorem tb_765 : Cond.code ⟨"DearVotesModel", "count", "(I)I"⟩ prog_7_method_47_code 4 (Option.some Jvm.ClassFile.FieldType.int) ∈ hx_ws := List.mem_filter.mpr ⟨List.mem_of_getElem? (i := 765) (by decide +kernel), rfl⟩
theorem tb_766 : Cond.methodLink "DearVotesLaw" 135 ⟨"DearVotesModel", "digest", "()J"⟩ ∈ hx_ws := List.mem_filter.mpr ⟨List.mem_of_getElem? (i := 766) (by decide +kernel), rfl⟩
theorem tb_767 : Cond.instanceMethod ⟨"DearVotesModel", "digest", "()J"⟩ ∈ hx_ws := List.mem_filter.mpr ⟨List.mem_of_getElem? (i := 767) (by decide +kernel), rfl⟩
theorem tb_768 : Cond.selects "DearVotesModel" ⟨"DearVotesModel", "digest", "()J"⟩ ⟨"DearVotesModel", "digest", "()J"⟩ ∈ hx_ws := List.mem_filter.mpr ⟨List.mem_of_getElem? (i := 768) (by decide +kernel), rfl⟩
theorem tb_769 : Cond.code ⟨"DearVotesModel", "digest", "()J"⟩ prog_7_method_49_code 3 (Option.some Jvm.ClassFile.FieldType.long) ∈ hx_ws := List.mem_filter.mpr ⟨List.mem_of_getElem? (i := 769) (by decide +kernel), rfl⟩
theorem tb_770 : Cond.constantLong "DearVotesModel" 177 103 ∈ hx_ws := List.mem_filter.mpr ⟨List.mem_of_getElem? (i := 770) (by decide +kernel), rfl⟩
theorem tb_771 : Cond.methodLink "DearVotesModel" 179 ⟨"DearVotesModel", "mix", "(J)V"⟩ ∈ hx_ws := List.mem_filter.mpr ⟨List.mem_of_getElem? (i := 771) (by decide +kernel), rfl⟩
theorem tb_772 : Cond.privateMethod ⟨"DearVotesModel", "mix", "(J)V"⟩ ∈ lw_tbl := List.mem_of_getElem? (i := 772) (by decide +kernel)
theorem tb_773 : Cond.instanceMethod ⟨"DearVotesModel", "mix", "(J)V"⟩ ∈ hx_ws := List.mem_filter.mpr ⟨List.mem_of_getElem? (i := 773) (by decide +kernel), rfl⟩
theorem tb_774 : Cond.code ⟨"DearVotesModel", "mix", "(J)V"⟩ prog_7_method_48_code 3 (Option.none : Option Jvm.ClassFile.FieldType) ∈ hx_ws := List.mem_filter.mpr ⟨List.mem_of_getElem? (i := 774) (by decide +kernel), rfl⟩
theorem tb_775 : Cond.constantLong "DearVotesModel" 171 31 ∈ hx_ws := List.mem_filter.mpr ⟨List.mem_of_getElem? (i := 775) (by decide +kernel), rfl⟩
theorem tb_776 : Cond.constantLong "DearVotesLaw" 107 4294967295 ∈ hx_ws := List.mem_filter.mpr ⟨List.mem_of_getElem? (i := 776) (by decide +kernel), rfl⟩
theorem inX0 : ∀ w ∈ wsX00, w ∈ hx_ws := (List.forall_mem_cons.mpr ⟨tb_178, List.forall_mem_cons.mpr ⟨tb_180, List.forall_mem_cons.mpr ⟨tb_182, List.forall_mem_cons.mpr ⟨tb_184, List.forall_mem_cons.mpr ⟨tb_186, fun _ h => absurd h List.not_mem_nil⟩⟩⟩⟩⟩ : ∀ w ∈ ([Cond.laysFinal "DearVotes$Fund" "DearVotes$Fund" "house" "LDearVotes$House;", Cond.lays "DearVotes$Fund" "DearVotes$Fund" "projects" "I", Cond.laysFinal "DearVotes$Fund" "DearVotes$Fund" "gifts" "[[I", Cond.laysFinal "DearVotes$Fund" "DearVotes$Fund" "bonds" "[[I", Cond.laysFinal "DearVotes$Fund" "DearVotes$Fund" "lows" "[J"] : List Cond), w ∈ hx_ws)
theorem inX1 : ∀ w ∈ wsX10, w ∈ hx_ws := (List.forall_mem_cons.mpr ⟨tb_70, List.forall_mem_cons.mpr ⟨tb_72, List.forall_mem_cons.mpr ⟨tb_74, List.forall_mem_cons.mpr ⟨tb_76, List.forall_mem_cons.mpr ⟨tb_78, List.forall_mem_cons.mpr ⟨tb_80, List.forall_mem_cons.mpr ⟨tb_82, fun _ h => absurd h List.not_mem_nil⟩⟩⟩⟩⟩⟩⟩ : ∀ w ∈ ([Cond.lays "DearVotes$House" "DearVotes$House" "people" "I", Cond.lays "DearVotes$House" "DearVotes$House" "questions" "I", Cond.lays "DearVotes$House" "DearVotes$House" "seed" "I", Cond.laysFinal "DearVotes$House" "DearVotes$House" "budgets" "[I", Cond.laysFinal "DearVotes$House" "DearVotes$House" "present" "[Z", Cond.laysFinal "DearVotes$House" "DearVotes$House" "voices" "[[I", Cond.laysFinal "DearVotes$House" "DearVotes$House" "worths" "[[I"] : List Cond), w ∈ hx_ws)
theorem inX2 : ∀ w ∈ wsX20, w ∈ hx_ws := (List.forall_mem_cons.mpr ⟨tb_147, List.forall_mem_cons.mpr ⟨tb_149, List.forall_mem_cons.mpr ⟨tb_151, List.forall_mem_cons.mpr ⟨tb_153, List.forall_mem_cons.mpr ⟨tb_155, List.forall_mem_cons.mpr ⟨tb_157, List.forall_mem_cons.mpr ⟨tb_159, fun _ h => absurd h List.not_mem_nil⟩⟩⟩⟩⟩⟩⟩ : ∀ w ∈ ([Cond.laysFinal "DearVotes$Rounds" "DearVotes$Rounds" "house" "LDearVotes$House;", Cond.laysFinal "DearVotes$Rounds" "DearVotes$Rounds" "search" "LDearVotes$Search;", Cond.laysFinal "DearVotes$Rounds" "DearVotes$Rounds" "trail" "[[J", Cond.lays "DearVotes$Rounds" "DearVotes$Rounds" "doneEver" "I", Cond.lays "DearVotes$Rounds" "DearVotes$Rounds" "changesEver" "I", Cond.lays "DearVotes$Rounds" "DearVotes$Rounds" "ending" "I", Cond.lays "DearVotes$Rounds" "DearVotes$Rounds" "ringLength" "I"] : List Cond), w ∈ hx_ws)
theorem inX3 : ∀ w ∈ wsX30, w ∈ hx_ws := (List.forall_mem_cons.mpr ⟨tb_107, List.forall_mem_cons.mpr ⟨tb_109, List.forall_mem_cons.mpr ⟨tb_111, List.forall_mem_cons.mpr ⟨tb_113, List.forall_mem_cons.mpr ⟨tb_115, List.forall_mem_cons.mpr ⟨tb_117, List.forall_mem_cons.mpr ⟨tb_119, List.forall_mem_cons.mpr ⟨tb_121, List.forall_mem_cons.mpr ⟨tb_123, List.forall_mem_cons.mpr ⟨tb_125, fun _ h => absurd h List.not_mem_nil⟩⟩⟩⟩⟩⟩⟩⟩⟩⟩ : ∀ w ∈ ([Cond.laysFinal "DearVotes$Search" "DearVotes$Search" "house" "LDearVotes$House;", Cond.laysFinal "DearVotes$Search" "DearVotes$Search" "choices" "[I", Cond.laysFinal "DearVotes$Search" "DearVotes$Search" "choiceVoices" "[[I", Cond.laysFinal "DearVotes$Search" "DearVotes$Search" "choiceGains" "[[I", Cond.laysFinal "DearVotes$Search" "DearVotes$Search" "gainAhead" "[I", Cond.laysFinal "DearVotes$Search" "DearVotes$Search" "tried" "[I", Cond.laysFinal "DearVotes$Search" "DearVotes$Search" "found" "[I", Cond.lays "DearVotes$Search" "DearVotes$Search" "foundGain" "I", Cond.lays "DearVotes$Search" "DearVotes$Search" "foundCost" "I", Cond.lays "DearVotes$Search" "DearVotes$Search" "budget" "I"] : List Cond), w ∈ hx_ws)
theorem inX4 : ∀ w ∈ wsX40, w ∈ hx_ws := (List.forall_mem_cons.mpr ⟨tb_193, List.forall_mem_cons.mpr ⟨tb_195, List.forall_mem_cons.mpr ⟨tb_197, List.forall_mem_cons.mpr ⟨tb_199, fun _ h => absurd h List.not_mem_nil⟩⟩⟩⟩ : ∀ w ∈ ([Cond.laysFinal "DearVotes" "DearVotes" "house" "LDearVotes$House;", Cond.laysFinal "DearVotes" "DearVotes" "search" "LDearVotes$Search;", Cond.laysFinal "DearVotes" "DearVotes" "rounds" "LDearVotes$Rounds;", Cond.laysFinal "DearVotes" "DearVotes" "fund" "LDearVotes$Fund;"] : List Cond), w ∈ hx_ws)
theorem inX5 : ∀ w ∈ wsX50, w ∈ hx_ws := (List.forall_mem_cons.mpr ⟨tb_525, List.forall_mem_cons.mpr ⟨tb_527, List.forall_mem_cons.mpr ⟨tb_529, List.forall_mem_cons.mpr ⟨tb_531, List.forall_mem_cons.mpr ⟨tb_533, List.forall_mem_cons.mpr ⟨tb_535, List.forall_mem_cons.mpr ⟨tb_537, List.forall_mem_cons.mpr ⟨tb_539, List.forall_mem_cons.mpr ⟨tb_541, List.forall_mem_cons.mpr ⟨tb_543, List.forall_mem_cons.mpr ⟨tb_545, List.forall_mem_cons.mpr ⟨tb_547, List.forall_mem_cons.mpr ⟨tb_549, List.forall_mem_cons.mpr ⟨tb_551, List.forall_mem_cons.mpr ⟨tb_553, List.forall_mem_cons.mpr ⟨tb_555, List.forall_mem_cons.mpr ⟨tb_557, List.forall_mem_cons.mpr ⟨tb_559, List.forall_mem_cons.mpr ⟨tb_561, List.forall_mem_cons.mpr ⟨tb_563, List.forall_mem_cons.mpr ⟨tb_565, List.forall_mem_cons.mpr ⟨tb_567, List.forall_mem_cons.mpr ⟨tb_569, List.forall_mem_cons.mpr ⟨tb_571, List.forall_mem_cons.mpr ⟨tb_573, fun _ h => absurd h List.not_mem_nil⟩⟩⟩⟩⟩⟩⟩⟩⟩⟩⟩⟩⟩⟩⟩⟩⟩⟩⟩⟩⟩⟩⟩⟩⟩ : ∀ w ∈ ([Cond.lays "DearVotesModel" "DearVotesModel" "people" "I", Cond.lays "DearVotesModel" "DearVotesModel" "questions" "I", Cond.lays "DearVotesModel" "DearVotesModel" "projects" "I", Cond.lays "DearVotesModel" "DearVotesModel" "seed" "I", Cond.laysFinal "DearVotesModel" "DearVotesModel" "budgets" "[I", Cond.laysFinal "DearVotesModel" "DearVotesModel" "isHere" "[Z", Cond.laysFinal "DearVotesModel" "DearVotesModel" "votes" "[I", Cond.laysFinal "DearVotesModel" "DearVotesModel" "worths" "[I", Cond.laysFinal "DearVotesModel" "DearVotesModel" "gifts" "[I", Cond.laysFinal "DearVotesModel" "DearVotesModel" "bonds" "[I", Cond.lays "DearVotesModel" "DearVotesModel" "rounds" "I", Cond.lays "DearVotesModel" "DearVotesModel" "changes" "I", Cond.lays "DearVotesModel" "DearVotesModel" "ended" "I", Cond.lays "DearVotesModel" "DearVotesModel" "ring" "I", Cond.laysFinal "DearVotesModel" "DearVotesModel" "cheapest" "[I", Cond.laysFinal "DearVotesModel" "DearVotesModel" "may" "[Z", Cond.laysFinal "DearVotesModel" "DearVotesModel" "bestVoices" "[I", Cond.laysFinal "DearVotesModel" "DearVotesModel" "tryVoices" "[I", Cond.lays "DearVotesModel" "DearVotesModel" "bestGain" "I", Cond.lays "DearVotesModel" "DearVotesModel" "bestCost" "I", Cond.lays "DearVotesModel" "DearVotesModel" "hasBest" "Z", Cond.laysFinal "DearVotesModel" "DearVotesModel" "past" "[I", Cond.laysFinal "DearVotesModel" "DearVotesModel" "parts" "[J", Cond.laysFinal "DearVotesModel" "DearVotesModel" "rests" "[J", Cond.lays "DearVotesModel" "DearVotesModel" "h" "J"] : List Cond), w ∈ hx_ws)
end
section
/-! THE LAYER: the heap behind the constructors as a flat memory (ints I, longs J, by cell and place), and walks over it with the machine hidden -/
abbrev MI : Type := Nat → Nat → Int32
abbrev MJ : Type := Nat → Nat → Int64
/-- the cells: 0 .. 5 objects (DearVotes, House, Search, Rounds, Fund, Model); then (kind, length, first row): 1 ints, 2 booleans, 3 longs, 4 rows of ints, 5 rows of longs -/
def hx_kt : List (Nat × Nat × Nat) := [(0, 0, 0), (0, 0, 0), (0, 0, 0), (0, 0, 0), (0, 0, 0), (0, 0, 0), (1, 12, 0), (2, 12, 0), (4, 12, 33), (4, 12, 45), (1, 6, 0), (4, 6, 57), (4, 6, 63), (1, 7, 0), (1, 6, 0), (1, 6, 0), (5, 31, 69), (4, 12, 100), (4, 12, 112), (3, 6, 0), (1, 12, 0), (2, 12, 0), (1, 72, 0), (1, 72, 0), (1, 72, 0), (1, 144, 0), (1, 18, 0), (2, 18, 0), (1, 6, 0), (1, 6, 0), (1, 2232, 0), (3, 6, 0), (3, 6, 0)] ++ List.replicate 24 (1, 6, 0) ++ List.replicate 12 (1, 3, 0) ++ List.replicate 31 (3, 12, 0) ++ List.replicate 12 (1, 6, 0) ++ List.replicate 12 (1, 12, 0)
def hx_kd (k : Nat) : Nat × Nat × Nat := hx_kt.getD k (9, 0, 0)
/-- what an object holds -/
def hx_ob (ad : Nat → Nat) (I : MI) (J : MJ) (k : Nat) : Nat × List Value := match k with
  | 0 => (4, [.ref (ad 1), .ref (ad 2), .ref (ad 3), .ref (ad 4)])
  | 1 => (1, [.int (I 1 0), .int (I 1 1), .int (I 1 2), .ref (ad 6), .ref (ad 7), .ref (ad 8), .ref (ad 9)])
  | 2 => (3, [.ref (ad 1), .ref (ad 10), .ref (ad 11), .ref (ad 12), .ref (ad 13), .ref (ad 14), .ref (ad 15), .int (I 2 7), .int (I 2 8), .int (I 2 9)])
  | 3 => (2, [.ref (ad 1), .ref (ad 2), .ref (ad 16), .int (I 3 3), .int (I 3 4), .int (I 3 5), .int (I 3 6)])
  | 4 => (0, [.ref (ad 1), .int (I 4 1), .ref (ad 17), .ref (ad 18), .ref (ad 19)])
  | _ => (5, [.int (I 5 0), .int (I 5 1), .int (I 5 2), .int (I 5 3), .ref (ad 20), .ref (ad 21), .ref (ad 22), .ref (ad 23), .ref (ad 24), .ref (ad 25), .int (I 5 10), .int (I 5 11), .int (I 5 12), .int (I 5 13), .ref (ad 26), .ref (ad 27), .ref (ad 28), .ref (ad 29), .int (I 5 18), .int (I 5 19), .int (I 5 20), .ref (ad 30), .ref (ad 31), .ref (ad 32), .long (J 5 24)])
def hx_rows (ad : Nat → Nat) (n b : Nat) : Nat → Option Nat := fun i => if i < n then some (ad (b + i)) else none
/-- what an array holds -/
def hx_ar (ad : Nat → Nat) (cy : Nat → ClassId) (I : MI) (J : MJ) (k : Nat) : ClassId × vp_A := match (hx_kd k).1 with
  | 1 => (cy 1, (hx_kd k).2.1, .inl (I k))
  | 2 => (cy 2, (hx_kd k).2.1, .inl (I k))
  | 3 => (cy 3, (hx_kd k).2.1, .inr (.inl (J k)))
  | 4 => (cy 4, (hx_kd k).2.1, .inr (.inr (.inr (.inr (hx_rows ad (hx_kd k).2.1 (hx_kd k).2.2)))))
  | _ => (cy 5, (hx_kd k).2.1, .inr (.inr (.inr (.inr (hx_rows ad (hx_kd k).2.1 (hx_kd k).2.2)))))
def hx_ce (ad : Nat → Nat) (cy : Nat → ClassId) (I : MI) (J : MJ) (k : Nat) : va_E := if k < 6 then .inr (hx_ob ad I J k) else .inl (hx_ar ad cy I J k)
def hx_w (ad : Nat → Nat) (cy : Nat → ClassId) (I : MI) (J : MJ) : va_W := (List.range 124).map (fun k => (ad k, hx_ce ad cy I J k))
def hx_ty (cy : Nat → ClassId) : List (ClassId × FieldType) := [(cy 1, .int), (cy 2, .boolean), (cy 3, .long), (cy 4, .array .int), (cy 5, .array .long)]
/-- a place written -/
def hx_u (I : MI) (k i : Nat) (x : Int32) : MI := fun a => if a = k then upd (I k) i x else I a
def hx_uJ (J : MJ) (k i : Nat) (x : Int64) : MJ := fun a => if a = k then vp_updL (J k) i x else J a
theorem hx_u_same (I : MI) (k i : Nat) (x : Int32) : hx_u I k i x k = upd (I k) i x := if_pos rfl
theorem hx_u_ne (I : MI) {k a : Nat} (i : Nat) (x : Int32) (h : a ≠ k) : hx_u I k i x a = I a := if_neg h
theorem hx_uJ_same (J : MJ) (k i : Nat) (x : Int64) : hx_uJ J k i x k = vp_updL (J k) i x := if_pos rfl
theorem hx_uJ_ne (J : MJ) {k a : Nat} (i : Nat) (x : Int64) (h : a ≠ k) : hx_uJ J k i x a = J a := if_neg h
theorem hx_at {ad : Nat → Nat} {cy : Nat → ClassId} {I : MI} {J : MJ} {k : Nat} (h : k < 124) : (hx_w ad cy I J)[k]? = some (ad k, hx_ce ad cy I J k) := by
  unfold hx_w
  rw [List.getElem?_map, List.getElem?_range h]
  rfl
theorem hx_len {ad : Nat → Nat} {cy : Nat → ClassId} {I : MI} {J : MJ} : (hx_w ad cy I J).length = 124 := by
  unfold hx_w
  rw [List.length_map, List.length_range]
theorem hx_kd_lt {k a n b : Nat} (h : hx_kd k = (a, n, b)) (ha : a ≠ 9) : k < 124 := by
  rcases Nat.lt_or_ge k 124 with q | q
  · exact q
  · exfalso
    have e : hx_kd k = (9, 0, 0) := by
      unfold hx_kd
      rw [List.getD_eq_getElem?_getD, List.getElem?_eq_none (by show hx_kt.length ≤ k; exact Nat.le_trans (by decide +kernel) q)]
      rfl
    rw [e] at h
    cases h
    exact ha rfl
theorem hx_kd_ge {k a n b : Nat} (h : hx_kd k = (a, n, b)) (ha : a ≠ 0) : ¬ k < 6 := by
  intro q
  have e : ∀ j, j < 6 → (hx_kd j).1 = 0 := by decide +kernel
  have := e k q
  rw [h] at this
  exact ha this
theorem hx_ce1 {ad : Nat → Nat} {cy : Nat → ClassId} {I : MI} {J : MJ} {k n b : Nat} (h : hx_kd k = (1, n, b)) : hx_ce ad cy I J k = .inl (cy 1, n, .inl (I k)) := by
  unfold hx_ce hx_ar
  rw [if_neg (hx_kd_ge h (by decide)), h]
  rfl
theorem hx_ce2 {ad : Nat → Nat} {cy : Nat → ClassId} {I : MI} {J : MJ} {k n b : Nat} (h : hx_kd k = (2, n, b)) : hx_ce ad cy I J k = .inl (cy 2, n, .inl (I k)) := by
  unfold hx_ce hx_ar
  rw [if_neg (hx_kd_ge h (by decide)), h]
  rfl
theorem hx_ce3 {ad : Nat → Nat} {cy : Nat → ClassId} {I : MI} {J : MJ} {k n b : Nat} (h : hx_kd k = (3, n, b)) : hx_ce ad cy I J k = .inl (cy 3, n, .inr (.inl (J k))) := by
  unfold hx_ce hx_ar
  rw [if_neg (hx_kd_ge h (by decide)), h]
  rfl
theorem hx_ce4 {ad : Nat → Nat} {cy : Nat → ClassId} {I : MI} {J : MJ} {k n b : Nat} (h : hx_kd k = (4, n, b)) : hx_ce ad cy I J k = .inl (cy 4, n, .inr (.inr (.inr (.inr (hx_rows ad n b))))) := by
  unfold hx_ce hx_ar
  rw [if_neg (hx_kd_ge h (by decide)), h]
  rfl
theorem hx_ce5 {ad : Nat → Nat} {cy : Nat → ClassId} {I : MI} {J : MJ} {k n b : Nat} (h : hx_kd k = (5, n, b)) : hx_ce ad cy I J k = .inl (cy 5, n, .inr (.inr (.inr (.inr (hx_rows ad n b))))) := by
  unfold hx_ce hx_ar
  rw [if_neg (hx_kd_ge h (by decide)), h]
  rfl
/-- a cell reads its own ints and longs alone -/
theorem hx_ob_eq {ad : Nat → Nat} {I I' : MI} {J J' : MJ} {k : Nat} (h6 : k < 6) (h1 : I' k = I k) (h2 : J' k = J k) : hx_ob ad I' J' k = hx_ob ad I J k := by
  match k, h6 with
  | 0, _ => rfl
  | 1, _ => show (1, _) = (1, _); rw [h1]
  | 2, _ => show (3, _) = (3, _); rw [h1]
  | 3, _ => show (2, _) = (2, _); rw [h1]
  | 4, _ => show (0, _) = (0, _); rw [h1]
  | 5, _ => show (5, _) = (5, _); rw [h1, h2]
  | k + 6, h => omega
theorem hx_ce_eq {ad : Nat → Nat} {cy : Nat → ClassId} {I I' : MI} {J J' : MJ} {k : Nat} (h1 : I' k = I k) (h2 : J' k = J k) : hx_ce ad cy I' J' k = hx_ce ad cy I J k := by
  unfold hx_ce
  by_cases h : k < 6
  · rw [if_pos h, if_pos h, hx_ob_eq h h1 h2]
  · rw [if_neg h, if_neg h]
    unfold hx_ar
    rw [h1, h2]
theorem hx_set {ad : Nat → Nat} {cy : Nat → ClassId} {I I' : MI} {J J' : MJ} {k : Nat} {x : va_E} (hx : hx_ce ad cy I' J' k = x) (h1 : ∀ a, a ≠ k → I' a = I a) (h2 : ∀ a, a ≠ k → J' a = J a) : (hx_w ad cy I J).set k (ad k, x) = hx_w ad cy I' J' := by
  subst hx
  apply List.ext_getElem?
  intro j
  rw [List.getElem?_set]
  by_cases hj : j < 124
  · rw [hx_at hj, hx_at hj]
    by_cases e : k = j
    · subst e
      rw [if_pos rfl, hx_len, if_pos hj]
    · rw [if_neg e, hx_ce_eq (h1 j (fun q => e q.symm)) (h2 j (fun q => e q.symm))]
  · rw [List.getElem?_eq_none (by rw [hx_len]; omega), List.getElem?_eq_none (by rw [hx_len]; omega), hx_len]
    by_cases e : k = j
    · rw [if_pos e, if_neg (by omega)]
    · rw [if_neg e]
theorem hx_D {A : Nat → Prop} {ad : Nat → Nat} {cy : Nat → ClassId} {I : MI} {J : MJ} (hA : ∀ k, k < 124 → A (ad k)) (hi : ∀ i j, i < 124 → j < 124 → ad i = ad j → i = j) : va_D A (hx_w ad cy I J) := by
  have lt : ∀ (k : Nat) (q : Nat × va_E), (hx_w ad cy I J)[k]? = some q → k < 124 ∧ q.1 = ad k := fun k q h => by
    have hk : k < 124 := by have := (List.getElem?_eq_some_iff.mp h).1; rw [hx_len] at this; exact this
    rw [hx_at hk] at h
    cases h
    exact ⟨hk, rfl⟩
  refine ⟨fun i j p q h1 h2 e => ?_, fun k q h => ?_⟩
  · obtain ⟨a1, a2⟩ := lt i p h1
    obtain ⟨b1, b2⟩ := lt j q h2
    exact hi i j a1 b1 (by rw [← a2, ← b2]; exact e)
  · obtain ⟨a1, a2⟩ := lt k q h
    rw [a2]
    exact hA k a1
/-- the addresses of the cells -/
def AA (ad : Nat → Nat) : Nat → Prop := fun q => ∃ k, k < 124 ∧ q = ad k
def hx_inj (ad : Nat → Nat) : Prop := ∀ i j, i < 124 → j < 124 → ad i = ad j → i = j
abbrev HX : Type := Nat → List (Nat × Value) → List Value → MI → MJ → Prop
abbrev hx_PO : Type := Option Value → MI → MJ → Prop
def hx_X (p : Program) (l : Launch) (e : Env) (R : Room) (s : State) (m : MethodId) (args : Array Value) (below : List Frame) (meth : Method) (c : Code) (D : va_G) (ad : Nat → Nat) (cy : Nat → ClassId) (A : Nat → Prop) (nL cells slots : Nat) (Q : State → Prop) : HX := fun pc lv st I J => ∀ (H : Heap) (locs : List Loc) (ls : Array Slot), va_P D vwCl (hx_w ad cy I J) H → va_S A s.heap H locs → lv_has ls nL lv → W p l e R s m args below meth c H locs cells slots Q (F0 m pc ls st)
/-- X is a walk in a method's body: the method of class own with the code cc, nL locals, room for d more frames -/
def Rl (l : Launch) (D : va_G) (ad : Nat → Nat) (cy : Nat → ClassId) (own : String) (cc : ByteArray) (nL d : Nat) (X : HX) : Prop :=
  ∃ (p : Program) (e : Env) (R : Room) (s : State) (m : MethodId) (args : Array Value) (below : List Frame) (meth : Method) (c : Code) (A : Nat → Prop) (cells slots : Nat) (Q : State → Prop),
    p.tables.exec = Jvm.exec ∧ c.code = cc ∧ c.maxLocals = nL ∧ s.vm.findClass own = some m.cls ∧ (∀ w ∈ hx_ws, w.before args s = true) ∧ va_K D vwCl (hx_ty cy) s ∧ (∀ k, k < 124 → A (ad k)) ∧ hx_inj ad ∧ (d ≤ R.frames ∧ 64 * d ≤ R.locals ∧ cells ≤ R.cells ∧ slots ≤ R.slots) ∧ X = hx_X p l e R s m args below meth c D ad cy A nL cells slots Q
/-- the method's ends -/
def Rt (cc : ByteArray) (ret : Option FieldType) (post : hx_PO) (X : HX) : Prop :=
  (ret = none → ∀ pc lv I J, decode cc pc = .ok (.return_, 1) → post none I J → X pc lv [] I J) ∧
  (ret = some .int → ∀ pc lv I J v, decode cc pc = .ok (.ireturn, 1) → post (some (.int v)) I J → X pc lv [.int v] I J) ∧
  (ret = some .boolean → ∀ pc lv I J v, decode cc pc = .ok (.ireturn, 1) → (v = 0 ∨ v = 1) → post (some (.int v)) I J → X pc lv [.int v] I J) ∧
  (ret = some .long → ∀ pc lv I J v, decode cc pc = .ok (.lreturn, 1) → post (some (.long v)) I J → X pc lv [.long v] I J)
def hx_rm (d : Nat) : Room := { frames := d, cells := 0, slots := 0, locals := 64 * d }
def hx_Pc (D : va_G) (ad : Nat → Nat) (cy : Nat → ClassId) (as : List Value) (I : MI) (J : MJ) : Array Value → State → Prop := va_Pc as (fun U => va_P D vwCl (hx_w ad cy I J) U.heap ∧ va_K D vwCl (hx_ty cy) U)
def hx_Qc (D : va_G) (ad : Nat → Nat) (cy : Nat → ClassId) (post : hx_PO) : Array Value → State → Outcome → State → Prop := fun _ st oc t => (∃ (v : Option Value) (I : MI) (J : MJ), oc = .returned v ∧ post v I J ∧ va_P D vwCl (hx_w ad cy I J) t.heap) ∧ va_F (AA ad) st t
/-- a method's contract: with these arguments, over this memory, it ends, and post holds of its answer and the memory then -/
def Ct (l : Launch) (D : va_G) (ad : Nat → Nat) (cy : Nat → ClassId) (y : MethodName) (cc : ByteArray) (nL : Nat) (ret : Option FieldType) (d : Nat) (as : List Value) (I : MI) (J : MJ) (post : hx_PO) : Prop :=
  Met l y (Cond.code y cc nL ret :: hx_ws) (hx_rm d) (hx_Pc D ad cy as I J) (hx_Qc D ad cy post) 0 0 (AA ad)
theorem hx_blind {D : va_G} {ad : Nat → Nat} {cy : Nat → ClassId} {as : List Value} {I : MI} {J : MJ} : FrameBlind (hx_Pc D ad cy as I J) := fun a U g mk q => by
  obtain ⟨q0, qP, qK⟩ := q
  exact ⟨q0, qP, va_K.moved (u := U) (U := U.calling g mk a) (Vm.Alike.refl U.vm) qK⟩
theorem ct_start {l : Launch} {D : va_G} {ad : Nat → Nat} {cy : Nat → ClassId} (hi : hx_inj ad) {y : MethodName} {cc : ByteArray} {nL : Nat} {ret : Option FieldType} {d : Nat} {as : List Value} {I : MI} {J : MJ} {post : hx_PO} (hy : plainName y.cls = true) (hn : (lg_sl as).length ≤ nL)
    (body : ∀ X : HX, Rl l D ad cy y.cls cc nL d X → Rt cc ret post X → X 0 (lv_args 0 as) [] I J) : Ct l D ad cy y cc nL ret d as I J post := by
  refine Met.ofW (cc := cc) (maxL := nL) (ret := ret) hy rfl ?_
  intro p e s m args below meth c s₁ B hml hv
  obtain ⟨rfl, hP, hK⟩ := hv
  have hx := B.exec
  have hb := B.bytes
  have hr := B.returns
  have hts := atoms_spec (ws := Cond.code y cc nL ret :: hx_ws) B.pre
  have hown : s.vm.findClass y.cls = some m.cls := findClass_of_methodNamed B.named
  have hlocks := B.notSynchronized
  have hl := lv_entry as (n := nL) hn
  rw [lg_entry_eq]
  have hAA : ∀ k, k < 124 → AA ad (ad k) := fun k h => ⟨k, h, rfl⟩
  refine body (hx_X p l e (headSpec (Cond.code y cc nL ret :: hx_ws) (hx_rm d)).room s m as.toArray below meth c D ad cy (AA ad) nL 0 0 (MQ below (hx_Qc D ad cy post) as.toArray s 0 0 (AA ad))) ?_ ?_ s.heap [] _ hP va_S.rf hl
  · exact ⟨p, e, _, s, m, _, below, meth, c, _, _, _, _, hx, hb, hml, hown, fun w hw => hts w (List.mem_cons_of_mem _ hw), hK, hAA, hi, ⟨Nat.le_refl _, Nat.le_refl _, Nat.zero_le _, Nat.zero_le _⟩, rfl⟩
  · refine ⟨fun hret pc lv I' J' hd hp H locs ls hP' hS hl' => ?_, fun hret pc lv I' J' v hd hp H locs ls hP' hS hl' => ?_, fun hret pc lv I' J' v hd hv hp H locs ls hP' hS hl' => ?_, fun hret pc lv I' J' v hd hp H locs ls hP' hS hl' => ?_⟩
    · exact W.vret hx hb (hr.trans hret) (fun t ht hW => ⟨⟨none, I', J', rfl, hp, by rw [ht]; exact hP'⟩, hS.F ht⟩) hS.2.2 hd hlocks
    · exact W.iret hx hb (hr.trans hret) (fun t ht hW => ⟨⟨_, I', J', rfl, hp, by rw [ht]; exact hP'⟩, hS.F ht⟩) hS.2.2 hd hlocks
    · exact W.zret hx hb (hr.trans hret) (by rcases hv with rfl | rfl <;> rfl) (fun t ht hW => ⟨⟨_, I', J', rfl, hp, by rw [ht]; exact hP'⟩, hS.F ht⟩) hS.2.2 hd hlocks
    · exact W.lret hx hb (hr.trans hret) (fun t ht hW => ⟨⟨_, I', J', rfl, hp, by rw [ht]; exact hP'⟩, hS.F ht⟩) hS.2.2 hd hlocks
theorem Ct.weaken {l : Launch} {D : va_G} {ad : Nat → Nat} {cy : Nat → ClassId} {y : MethodName} {cc : ByteArray} {nL : Nat} {ret : Option FieldType} {d : Nat} {as : List Value} {I : MI} {J : MJ} {post post' : hx_PO} (h : Ct l D ad cy y cc nL ret d as I J post) (k : ∀ v I' J', post v I' J' → post' v I' J') : Ct l D ad cy y cc nL ret d as I J post' := by
  intro p e a1 a2 a3 s m args below a4 a5 a6 a7
  obtain ⟨t, o, b1, b2, b3, ⟨⟨v, I', J', e1, e2, e3⟩, f⟩, g⟩ := h p e a1 a2 a3 s m args below a4 a5 a6 a7
  exact ⟨t, o, b1, b2, b3, ⟨⟨v, I', J', e1, k v I' J' e2, e3⟩, f⟩, g⟩
end
section
/-! the rules: an instruction, a row -/
theorem hx_kd_n {k a n b : Nat} (h : hx_kd k = (a, n, b)) (ha : a ≠ 9) : n < 2 ^ 31 := by
  have e : ∀ j, j < 124 → (hx_kd j).2.1 < 3000 := by decide +kernel
  have := e k (hx_kd_lt h ha)
  rw [h] at this
  have h2 : n < 3000 := this
  omega
section WLR
variable {l : Launch} {D : va_G} {ad : Nat → Nat} {cy : Nat → ClassId} {own : String} {cc : ByteArray} {nL d : Nat} {X : HX} {pc : Nat} {lv lv' : List (Nat × Value)} {st : List Value} {I : MI} {J : MJ}
theorem wl_iconst (hZ : Rl l D ad cy own cc nL d X) {n : Int} {v : Int32} (hdg : decode cc pc = .ok (.iconst n, 1)) (hv : Int32.ofInt n = v) (k : X (pc + 1) lv (.int v :: st) I J) : X pc lv (st) I J := by
  obtain ⟨p, e, R, s, m, args, below, meth, c, A, cells, slots, Q, hx, hb, hml, hown, hts, hK, hA, hj, hR, rfl⟩ := hZ
  intro H locs ls hP hS hl
  exact lv_iconst hx hb hdg hv (k H locs ls hP hS hl)
theorem wl_bipush (hZ : Rl l D ad cy own cc nL d X) {n : Int} {v : Int32} (hdg : decode cc pc = .ok (.bipush n, 2)) (hv : (Int8.ofInt n).toInt32 = v) (k : X (pc + 2) lv (.int v :: st) I J) : X pc lv (st) I J := by
  obtain ⟨p, e, R, s, m, args, below, meth, c, A, cells, slots, Q, hx, hb, hml, hown, hts, hK, hA, hj, hR, rfl⟩ := hZ
  intro H locs ls hP hS hl
  exact lv_bipush hx hb hdg hv (k H locs ls hP hS hl)
theorem wl_sipush (hZ : Rl l D ad cy own cc nL d X) {n : Int} {v : Int32} (hdg : decode cc pc = .ok (.sipush n, 3)) (hv : (Int16.ofInt n).toInt32 = v) (k : X (pc + 3) lv (.int v :: st) I J) : X pc lv (st) I J := by
  obtain ⟨p, e, R, s, m, args, below, meth, c, A, cells, slots, Q, hx, hb, hml, hown, hts, hK, hA, hj, hR, rfl⟩ := hZ
  intro H locs ls hP hS hl
  exact lv_sipush hx hb hdg hv (k H locs ls hP hS hl)
theorem wl_lconst (hZ : Rl l D ad cy own cc nL d X) {n : Fin 2} {v : Int64} (hdg : decode cc pc = .ok (.lconst n, 1)) (hv : Int64.ofNat (n : Nat) = v) (k : X (pc + 1) lv (.long v :: st) I J) : X pc lv (st) I J := by
  obtain ⟨p, e, R, s, m, args, below, meth, c, A, cells, slots, Q, hx, hb, hml, hown, hts, hK, hA, hj, hR, rfl⟩ := hZ
  intro H locs ls hP hS hl
  exact lv_lconst hx hb hdg hv (k H locs ls hP hS hl)
theorem wl_iadd (hZ : Rl l D ad cy own cc nL d X) {x y : Int32} (hdg : decode cc pc = .ok (.iadd, 1)) (k : X (pc + 1) lv (.int (x + y) :: st) I J) : X pc lv (.int y :: .int x :: st) I J := by
  obtain ⟨p, e, R, s, m, args, below, meth, c, A, cells, slots, Q, hx, hb, hml, hown, hts, hK, hA, hj, hR, rfl⟩ := hZ
  intro H locs ls hP hS hl
  exact lv_iadd hx hb hdg (k H locs ls hP hS hl)
theorem wl_isub (hZ : Rl l D ad cy own cc nL d X) {x y : Int32} (hdg : decode cc pc = .ok (.isub, 1)) (k : X (pc + 1) lv (.int (x - y) :: st) I J) : X pc lv (.int y :: .int x :: st) I J := by
  obtain ⟨p, e, R, s, m, args, below, meth, c, A, cells, slots, Q, hx, hb, hml, hown, hts, hK, hA, hj, hR, rfl⟩ := hZ
  intro H locs ls hP hS hl
  exact lv_isub hx hb hdg (k H locs ls hP hS hl)
theorem wl_imul (hZ : Rl l D ad cy own cc nL d X) {x y : Int32} (hdg : decode cc pc = .ok (.imul, 1)) (k : X (pc + 1) lv (.int (x * y) :: st) I J) : X pc lv (.int y :: .int x :: st) I J := by
  obtain ⟨p, e, R, s, m, args, below, meth, c, A, cells, slots, Q, hx, hb, hml, hown, hts, hK, hA, hj, hR, rfl⟩ := hZ
  intro H locs ls hP hS hl
  exact lv_imul hx hb hdg (k H locs ls hP hS hl)
theorem wl_iand (hZ : Rl l D ad cy own cc nL d X) {x y : Int32} (hdg : decode cc pc = .ok (.iand, 1)) (k : X (pc + 1) lv (.int (x &&& y) :: st) I J) : X pc lv (.int y :: .int x :: st) I J := by
  obtain ⟨p, e, R, s, m, args, below, meth, c, A, cells, slots, Q, hx, hb, hml, hown, hts, hK, hA, hj, hR, rfl⟩ := hZ
  intro H locs ls hP hS hl
  exact lv_iand hx hb hdg (k H locs ls hP hS hl)
theorem wl_ior (hZ : Rl l D ad cy own cc nL d X) {x y : Int32} (hdg : decode cc pc = .ok (.ior, 1)) (k : X (pc + 1) lv (.int (x ||| y) :: st) I J) : X pc lv (.int y :: .int x :: st) I J := by
  obtain ⟨p, e, R, s, m, args, below, meth, c, A, cells, slots, Q, hx, hb, hml, hown, hts, hK, hA, hj, hR, rfl⟩ := hZ
  intro H locs ls hP hS hl
  exact lv_ior hx hb hdg (k H locs ls hP hS hl)
theorem wl_idiv (hZ : Rl l D ad cy own cc nL d X) {x y : Int32} (hdg : decode cc pc = .ok (.idiv, 1)) (hne : ¬ y = 0) (k : X (pc + 1) lv (.int (x / y) :: st) I J) : X pc lv (.int y :: .int x :: st) I J := by
  obtain ⟨p, e, R, s, m, args, below, meth, c, A, cells, slots, Q, hx, hb, hml, hown, hts, hK, hA, hj, hR, rfl⟩ := hZ
  intro H locs ls hP hS hl
  exact lv_idiv hx hb hdg hne (k H locs ls hP hS hl)
theorem wl_irem (hZ : Rl l D ad cy own cc nL d X) {x y : Int32} (hdg : decode cc pc = .ok (.irem, 1)) (hne : ¬ y = 0) (k : X (pc + 1) lv (.int (x - x / y * y) :: st) I J) : X pc lv (.int y :: .int x :: st) I J := by
  obtain ⟨p, e, R, s, m, args, below, meth, c, A, cells, slots, Q, hx, hb, hml, hown, hts, hK, hA, hj, hR, rfl⟩ := hZ
  intro H locs ls hP hS hl
  exact lv_irem hx hb hdg hne (k H locs ls hP hS hl)
theorem wl_ineg (hZ : Rl l D ad cy own cc nL d X) {x : Int32} (hdg : decode cc pc = .ok (.ineg, 1)) (k : X (pc + 1) lv (.int (-x) :: st) I J) : X pc lv (.int x :: st) I J := by
  obtain ⟨p, e, R, s, m, args, below, meth, c, A, cells, slots, Q, hx, hb, hml, hown, hts, hK, hA, hj, hR, rfl⟩ := hZ
  intro H locs ls hP hS hl
  exact lv_ineg hx hb hdg (k H locs ls hP hS hl)
theorem wl_ladd (hZ : Rl l D ad cy own cc nL d X) {x y : Int64} (hdg : decode cc pc = .ok (.ladd, 1)) (k : X (pc + 1) lv (.long (x + y) :: st) I J) : X pc lv (.long y :: .long x :: st) I J := by
  obtain ⟨p, e, R, s, m, args, below, meth, c, A, cells, slots, Q, hx, hb, hml, hown, hts, hK, hA, hj, hR, rfl⟩ := hZ
  intro H locs ls hP hS hl
  exact lv_ladd hx hb hdg (k H locs ls hP hS hl)
theorem wl_lsub (hZ : Rl l D ad cy own cc nL d X) {x y : Int64} (hdg : decode cc pc = .ok (.lsub, 1)) (k : X (pc + 1) lv (.long (x - y) :: st) I J) : X pc lv (.long y :: .long x :: st) I J := by
  obtain ⟨p, e, R, s, m, args, below, meth, c, A, cells, slots, Q, hx, hb, hml, hown, hts, hK, hA, hj, hR, rfl⟩ := hZ
  intro H locs ls hP hS hl
  exact lv_lsub hx hb hdg (k H locs ls hP hS hl)
theorem wl_lmul (hZ : Rl l D ad cy own cc nL d X) {x y : Int64} (hdg : decode cc pc = .ok (.lmul, 1)) (k : X (pc + 1) lv (.long (x * y) :: st) I J) : X pc lv (.long y :: .long x :: st) I J := by
  obtain ⟨p, e, R, s, m, args, below, meth, c, A, cells, slots, Q, hx, hb, hml, hown, hts, hK, hA, hj, hR, rfl⟩ := hZ
  intro H locs ls hP hS hl
  exact lv_lmul hx hb hdg (k H locs ls hP hS hl)
theorem wl_land (hZ : Rl l D ad cy own cc nL d X) {x y : Int64} (hdg : decode cc pc = .ok (.land, 1)) (k : X (pc + 1) lv (.long (x &&& y) :: st) I J) : X pc lv (.long y :: .long x :: st) I J := by
  obtain ⟨p, e, R, s, m, args, below, meth, c, A, cells, slots, Q, hx, hb, hml, hown, hts, hK, hA, hj, hR, rfl⟩ := hZ
  intro H locs ls hP hS hl
  exact lv_land hx hb hdg (k H locs ls hP hS hl)
theorem wl_lor (hZ : Rl l D ad cy own cc nL d X) {x y : Int64} (hdg : decode cc pc = .ok (.lor, 1)) (k : X (pc + 1) lv (.long (x ||| y) :: st) I J) : X pc lv (.long y :: .long x :: st) I J := by
  obtain ⟨p, e, R, s, m, args, below, meth, c, A, cells, slots, Q, hx, hb, hml, hown, hts, hK, hA, hj, hR, rfl⟩ := hZ
  intro H locs ls hP hS hl
  exact lv_lor hx hb hdg (k H locs ls hP hS hl)
theorem wl_ldiv (hZ : Rl l D ad cy own cc nL d X) {x y : Int64} (hdg : decode cc pc = .ok (.ldiv, 1)) (hne : ¬ y = 0) (k : X (pc + 1) lv (.long (x / y) :: st) I J) : X pc lv (.long y :: .long x :: st) I J := by
  obtain ⟨p, e, R, s, m, args, below, meth, c, A, cells, slots, Q, hx, hb, hml, hown, hts, hK, hA, hj, hR, rfl⟩ := hZ
  intro H locs ls hP hS hl
  exact lv_ldiv hx hb hdg hne (k H locs ls hP hS hl)
theorem wl_lrem (hZ : Rl l D ad cy own cc nL d X) {x y : Int64} (hdg : decode cc pc = .ok (.lrem, 1)) (hne : ¬ y = 0) (k : X (pc + 1) lv (.long (x - x / y * y) :: st) I J) : X pc lv (.long y :: .long x :: st) I J := by
  obtain ⟨p, e, R, s, m, args, below, meth, c, A, cells, slots, Q, hx, hb, hml, hown, hts, hK, hA, hj, hR, rfl⟩ := hZ
  intro H locs ls hP hS hl
  exact lv_lrem hx hb hdg hne (k H locs ls hP hS hl)
theorem wl_lneg (hZ : Rl l D ad cy own cc nL d X) {x : Int64} (hdg : decode cc pc = .ok (.lneg, 1)) (k : X (pc + 1) lv (.long (-x) :: st) I J) : X pc lv (.long x :: st) I J := by
  obtain ⟨p, e, R, s, m, args, below, meth, c, A, cells, slots, Q, hx, hb, hml, hown, hts, hK, hA, hj, hR, rfl⟩ := hZ
  intro H locs ls hP hS hl
  exact lv_lneg hx hb hdg (k H locs ls hP hS hl)
theorem wl_ishl (hZ : Rl l D ad cy own cc nL d X) {x y : Int32} (hdg : decode cc pc = .ok (.ishl, 1)) (k : X (pc + 1) lv (.int (x <<< (y &&& 31)) :: st) I J) : X pc lv (.int y :: .int x :: st) I J := by
  obtain ⟨p, e, R, s, m, args, below, meth, c, A, cells, slots, Q, hx, hb, hml, hown, hts, hK, hA, hj, hR, rfl⟩ := hZ
  intro H locs ls hP hS hl
  exact lv_ishl hx hb hdg (k H locs ls hP hS hl)
theorem wl_ishr (hZ : Rl l D ad cy own cc nL d X) {x y : Int32} (hdg : decode cc pc = .ok (.ishr, 1)) (k : X (pc + 1) lv (.int (x >>> (y &&& 31)) :: st) I J) : X pc lv (.int y :: .int x :: st) I J := by
  obtain ⟨p, e, R, s, m, args, below, meth, c, A, cells, slots, Q, hx, hb, hml, hown, hts, hK, hA, hj, hR, rfl⟩ := hZ
  intro H locs ls hP hS hl
  exact lv_ishr hx hb hdg (k H locs ls hP hS hl)
theorem wl_iushr (hZ : Rl l D ad cy own cc nL d X) {x y v : Int32} (hdg : decode cc pc = .ok (.iushr, 1)) (hv : (x.toUInt32 >>> (y.toUInt32 &&& Int32.toUInt32 31)).toInt32 = v) (k : X (pc + 1) lv (.int v :: st) I J) : X pc lv (.int y :: .int x :: st) I J := by
  obtain ⟨p, e, R, s, m, args, below, meth, c, A, cells, slots, Q, hx, hb, hml, hown, hts, hK, hA, hj, hR, rfl⟩ := hZ
  intro H locs ls hP hS hl
  exact lv_iushr hx hb hdg hv (k H locs ls hP hS hl)
theorem wl_lshl (hZ : Rl l D ad cy own cc nL d X) {x v : Int64} {y : Int32} (hdg : decode cc pc = .ok (.lshl, 1)) (hv : x <<< (y.toInt64 &&& 63) = v) (k : X (pc + 1) lv (.long v :: st) I J) : X pc lv (.int y :: .long x :: st) I J := by
  obtain ⟨p, e, R, s, m, args, below, meth, c, A, cells, slots, Q, hx, hb, hml, hown, hts, hK, hA, hj, hR, rfl⟩ := hZ
  intro H locs ls hP hS hl
  exact lv_lshl hx hb hdg hv (k H locs ls hP hS hl)
theorem wl_lshr (hZ : Rl l D ad cy own cc nL d X) {x v : Int64} {y : Int32} (hdg : decode cc pc = .ok (.lshr, 1)) (hv : x >>> (y.toInt64 &&& 63) = v) (k : X (pc + 1) lv (.long v :: st) I J) : X pc lv (.int y :: .long x :: st) I J := by
  obtain ⟨p, e, R, s, m, args, below, meth, c, A, cells, slots, Q, hx, hb, hml, hown, hts, hK, hA, hj, hR, rfl⟩ := hZ
  intro H locs ls hP hS hl
  exact lv_lshr hx hb hdg hv (k H locs ls hP hS hl)
theorem wl_i2l (hZ : Rl l D ad cy own cc nL d X) {x : Int32} {v : Int64} (hdg : decode cc pc = .ok (.i2l, 1)) (hv : x.toInt64 = v) (k : X (pc + 1) lv (.long v :: st) I J) : X pc lv (.int x :: st) I J := by
  obtain ⟨p, e, R, s, m, args, below, meth, c, A, cells, slots, Q, hx, hb, hml, hown, hts, hK, hA, hj, hR, rfl⟩ := hZ
  intro H locs ls hP hS hl
  exact lv_i2l hx hb hdg hv (k H locs ls hP hS hl)
theorem wl_l2i (hZ : Rl l D ad cy own cc nL d X) {x : Int64} {v : Int32} (hdg : decode cc pc = .ok (.l2i, 1)) (hv : x.toInt32 = v) (k : X (pc + 1) lv (.int v :: st) I J) : X pc lv (.long x :: st) I J := by
  obtain ⟨p, e, R, s, m, args, below, meth, c, A, cells, slots, Q, hx, hb, hml, hown, hts, hK, hA, hj, hR, rfl⟩ := hZ
  intro H locs ls hP hS hl
  exact lv_l2i hx hb hdg hv (k H locs ls hP hS hl)
theorem wl_dup (hZ : Rl l D ad cy own cc nL d X) {va : Value} (hdg : decode cc pc = .ok (.dup, 1)) (hva : va.category = 1) (k : X (pc + 1) lv (va :: va :: st) I J) : X pc lv (va :: st) I J := by
  obtain ⟨p, e, R, s, m, args, below, meth, c, A, cells, slots, Q, hx, hb, hml, hown, hts, hK, hA, hj, hR, rfl⟩ := hZ
  intro H locs ls hP hS hl
  exact lv_dup hx hb hdg hva (k H locs ls hP hS hl)
theorem wl_dup2_11 (hZ : Rl l D ad cy own cc nL d X) {va vb : Value} (hdg : decode cc pc = .ok (.dup2, 1)) (hva : va.category = 1) (hvb : vb.category = 1) (k : X (pc + 1) lv (va :: vb :: va :: vb :: st) I J) : X pc lv (va :: vb :: st) I J := by
  obtain ⟨p, e, R, s, m, args, below, meth, c, A, cells, slots, Q, hx, hb, hml, hown, hts, hK, hA, hj, hR, rfl⟩ := hZ
  intro H locs ls hP hS hl
  exact lv_dup2_11 hx hb hdg hva hvb (k H locs ls hP hS hl)
theorem wl_goto (hZ : Rl l D ad cy own cc nL d X) {off : Int} {tgt : Nat} (hdg : decode cc pc = .ok (.goto off, 3)) (ht : (pc : Int) + off = (tgt : Int)) (k : X tgt lv st I J) : X pc lv st I J := by
  obtain ⟨p, e, R, s, m, args, below, meth, c, A, cells, slots, Q, hx, hb, hml, hown, hts, hK, hA, hj, hR, rfl⟩ := hZ
  intro H locs ls hP hS hl
  exact lv_goto hx hb hdg ht (k H locs ls hP hS hl)
theorem wl_if_eq (hZ : Rl l D ad cy own cc nL d X) {x : Int32} {off : Int} {tgt : Nat} (hdg : decode cc pc = .ok (.ifCond .eq off, 3)) (ht : (pc : Int) + off = (tgt : Int)) (kt : x = 0 → X tgt lv st I J) (kf : ¬ x = 0 → X (pc + 3) lv st I J) : X pc lv (.int x :: st) I J := by
  obtain ⟨p, e, R, s, m, args, below, meth, c, A, cells, slots, Q, hx, hb, hml, hown, hts, hK, hA, hj, hR, rfl⟩ := hZ
  intro H locs ls hP hS hl
  exact lv_if_eq hx hb hdg ht (fun w => kt w H locs ls hP hS hl) (fun w => kf w H locs ls hP hS hl)
theorem wl_if_ne (hZ : Rl l D ad cy own cc nL d X) {x : Int32} {off : Int} {tgt : Nat} (hdg : decode cc pc = .ok (.ifCond .ne off, 3)) (ht : (pc : Int) + off = (tgt : Int)) (kt : ¬ x = 0 → X tgt lv st I J) (kf : x = 0 → X (pc + 3) lv st I J) : X pc lv (.int x :: st) I J := by
  obtain ⟨p, e, R, s, m, args, below, meth, c, A, cells, slots, Q, hx, hb, hml, hown, hts, hK, hA, hj, hR, rfl⟩ := hZ
  intro H locs ls hP hS hl
  exact lv_if_ne hx hb hdg ht (fun w => kt w H locs ls hP hS hl) (fun w => kf w H locs ls hP hS hl)
theorem wl_if_lt (hZ : Rl l D ad cy own cc nL d X) {x : Int32} {off : Int} {tgt : Nat} (hdg : decode cc pc = .ok (.ifCond .lt off, 3)) (ht : (pc : Int) + off = (tgt : Int)) (kt : x < 0 → X tgt lv st I J) (kf : ¬ x < 0 → X (pc + 3) lv st I J) : X pc lv (.int x :: st) I J := by
  obtain ⟨p, e, R, s, m, args, below, meth, c, A, cells, slots, Q, hx, hb, hml, hown, hts, hK, hA, hj, hR, rfl⟩ := hZ
  intro H locs ls hP hS hl
  exact lv_if_lt hx hb hdg ht (fun w => kt w H locs ls hP hS hl) (fun w => kf w H locs ls hP hS hl)
theorem wl_if_ge (hZ : Rl l D ad cy own cc nL d X) {x : Int32} {off : Int} {tgt : Nat} (hdg : decode cc pc = .ok (.ifCond .ge off, 3)) (ht : (pc : Int) + off = (tgt : Int)) (kt : 0 ≤ x → X tgt lv st I J) (kf : ¬ 0 ≤ x → X (pc + 3) lv st I J) : X pc lv (.int x :: st) I J := by
  obtain ⟨p, e, R, s, m, args, below, meth, c, A, cells, slots, Q, hx, hb, hml, hown, hts, hK, hA, hj, hR, rfl⟩ := hZ
  intro H locs ls hP hS hl
  exact lv_if_ge hx hb hdg ht (fun w => kt w H locs ls hP hS hl) (fun w => kf w H locs ls hP hS hl)
theorem wl_if_gt (hZ : Rl l D ad cy own cc nL d X) {x : Int32} {off : Int} {tgt : Nat} (hdg : decode cc pc = .ok (.ifCond .gt off, 3)) (ht : (pc : Int) + off = (tgt : Int)) (kt : 0 < x → X tgt lv st I J) (kf : ¬ 0 < x → X (pc + 3) lv st I J) : X pc lv (.int x :: st) I J := by
  obtain ⟨p, e, R, s, m, args, below, meth, c, A, cells, slots, Q, hx, hb, hml, hown, hts, hK, hA, hj, hR, rfl⟩ := hZ
  intro H locs ls hP hS hl
  exact lv_if_gt hx hb hdg ht (fun w => kt w H locs ls hP hS hl) (fun w => kf w H locs ls hP hS hl)
theorem wl_if_le (hZ : Rl l D ad cy own cc nL d X) {x : Int32} {off : Int} {tgt : Nat} (hdg : decode cc pc = .ok (.ifCond .le off, 3)) (ht : (pc : Int) + off = (tgt : Int)) (kt : x ≤ 0 → X tgt lv st I J) (kf : ¬ x ≤ 0 → X (pc + 3) lv st I J) : X pc lv (.int x :: st) I J := by
  obtain ⟨p, e, R, s, m, args, below, meth, c, A, cells, slots, Q, hx, hb, hml, hown, hts, hK, hA, hj, hR, rfl⟩ := hZ
  intro H locs ls hP hS hl
  exact lv_if_le hx hb hdg ht (fun w => kt w H locs ls hP hS hl) (fun w => kf w H locs ls hP hS hl)
theorem wl_icmp_eq (hZ : Rl l D ad cy own cc nL d X) {x y : Int32} {off : Int} {tgt : Nat} (hdg : decode cc pc = .ok (.if_icmp .eq off, 3)) (ht : (pc : Int) + off = (tgt : Int)) (kt : x = y → X tgt lv st I J) (kf : ¬ x = y → X (pc + 3) lv st I J) : X pc lv (.int y :: .int x :: st) I J := by
  obtain ⟨p, e, R, s, m, args, below, meth, c, A, cells, slots, Q, hx, hb, hml, hown, hts, hK, hA, hj, hR, rfl⟩ := hZ
  intro H locs ls hP hS hl
  exact lv_icmp_eq hx hb hdg ht (fun w => kt w H locs ls hP hS hl) (fun w => kf w H locs ls hP hS hl)
theorem wl_icmp_ne (hZ : Rl l D ad cy own cc nL d X) {x y : Int32} {off : Int} {tgt : Nat} (hdg : decode cc pc = .ok (.if_icmp .ne off, 3)) (ht : (pc : Int) + off = (tgt : Int)) (kt : ¬ x = y → X tgt lv st I J) (kf : x = y → X (pc + 3) lv st I J) : X pc lv (.int y :: .int x :: st) I J := by
  obtain ⟨p, e, R, s, m, args, below, meth, c, A, cells, slots, Q, hx, hb, hml, hown, hts, hK, hA, hj, hR, rfl⟩ := hZ
  intro H locs ls hP hS hl
  exact lv_icmp_ne hx hb hdg ht (fun w => kt w H locs ls hP hS hl) (fun w => kf w H locs ls hP hS hl)
theorem wl_icmp_lt (hZ : Rl l D ad cy own cc nL d X) {x y : Int32} {off : Int} {tgt : Nat} (hdg : decode cc pc = .ok (.if_icmp .lt off, 3)) (ht : (pc : Int) + off = (tgt : Int)) (kt : x < y → X tgt lv st I J) (kf : ¬ x < y → X (pc + 3) lv st I J) : X pc lv (.int y :: .int x :: st) I J := by
  obtain ⟨p, e, R, s, m, args, below, meth, c, A, cells, slots, Q, hx, hb, hml, hown, hts, hK, hA, hj, hR, rfl⟩ := hZ
  intro H locs ls hP hS hl
  exact lv_icmp_lt hx hb hdg ht (fun w => kt w H locs ls hP hS hl) (fun w => kf w H locs ls hP hS hl)
theorem wl_icmp_ge (hZ : Rl l D ad cy own cc nL d X) {x y : Int32} {off : Int} {tgt : Nat} (hdg : decode cc pc = .ok (.if_icmp .ge off, 3)) (ht : (pc : Int) + off = (tgt : Int)) (kt : y ≤ x → X tgt lv st I J) (kf : ¬ y ≤ x → X (pc + 3) lv st I J) : X pc lv (.int y :: .int x :: st) I J := by
  obtain ⟨p, e, R, s, m, args, below, meth, c, A, cells, slots, Q, hx, hb, hml, hown, hts, hK, hA, hj, hR, rfl⟩ := hZ
  intro H locs ls hP hS hl
  exact lv_icmp_ge hx hb hdg ht (fun w => kt w H locs ls hP hS hl) (fun w => kf w H locs ls hP hS hl)
theorem wl_icmp_gt (hZ : Rl l D ad cy own cc nL d X) {x y : Int32} {off : Int} {tgt : Nat} (hdg : decode cc pc = .ok (.if_icmp .gt off, 3)) (ht : (pc : Int) + off = (tgt : Int)) (kt : y < x → X tgt lv st I J) (kf : ¬ y < x → X (pc + 3) lv st I J) : X pc lv (.int y :: .int x :: st) I J := by
  obtain ⟨p, e, R, s, m, args, below, meth, c, A, cells, slots, Q, hx, hb, hml, hown, hts, hK, hA, hj, hR, rfl⟩ := hZ
  intro H locs ls hP hS hl
  exact lv_icmp_gt hx hb hdg ht (fun w => kt w H locs ls hP hS hl) (fun w => kf w H locs ls hP hS hl)
theorem wl_icmp_le (hZ : Rl l D ad cy own cc nL d X) {x y : Int32} {off : Int} {tgt : Nat} (hdg : decode cc pc = .ok (.if_icmp .le off, 3)) (ht : (pc : Int) + off = (tgt : Int)) (kt : x ≤ y → X tgt lv st I J) (kf : ¬ x ≤ y → X (pc + 3) lv st I J) : X pc lv (.int y :: .int x :: st) I J := by
  obtain ⟨p, e, R, s, m, args, below, meth, c, A, cells, slots, Q, hx, hb, hml, hown, hts, hK, hA, hj, hR, rfl⟩ := hZ
  intro H locs ls hP hS hl
  exact lv_icmp_le hx hb hdg ht (fun w => kt w H locs ls hP hS hl) (fun w => kf w H locs ls hP hS hl)
theorem wl_tableIn (hZ : Rl l D ad cy own cc nL d X) {dflt lo hi : Int} {offs : Array Int} {len : Nat} {x : Int32} {off : Int} {tgt : Nat} (hdg : decode cc pc = .ok (.tableswitch dflt lo hi offs, len)) (h1 : ¬ x.toInt < lo) (h2 : ¬ hi < x.toInt) (ho : offs[(x.toInt - lo).toNat]? = some off) (ht : (pc : Int) + off = (tgt : Int)) (k : X tgt lv st I J) : X pc lv (.int x :: st) I J := by
  obtain ⟨p, e, R, s, m, args, below, meth, c, A, cells, slots, Q, hx, hb, hml, hown, hts, hK, hA, hj, hR, rfl⟩ := hZ
  intro H locs ls hP hS hl
  exact lv_tableIn hx hb hdg h1 h2 ho ht (k H locs ls hP hS hl)
theorem wl_tableOut (hZ : Rl l D ad cy own cc nL d X) {dflt lo hi : Int} {offs : Array Int} {len : Nat} {x : Int32} {tgt : Nat} (hdg : decode cc pc = .ok (.tableswitch dflt lo hi offs, len)) (h : x.toInt < lo ∨ hi < x.toInt) (ht : (pc : Int) + dflt = (tgt : Int)) (k : X tgt lv st I J) : X pc lv (.int x :: st) I J := by
  obtain ⟨p, e, R, s, m, args, below, meth, c, A, cells, slots, Q, hx, hb, hml, hown, hts, hK, hA, hj, hR, rfl⟩ := hZ
  intro H locs ls hP hS hl
  exact lv_tableOut hx hb hdg h ht (k H locs ls hP hS hl)
theorem wl_iload_n (hZ : Rl l D ad cy own cc nL d X) {k : Fin 4} {x : Int32} (j : Nat) (hg : lv[j]? = some ((k : Nat), .int x)) (hdg : decode cc pc = .ok (.iload_n k, 1)) (kk : X (pc + 1) lv (.int x :: st) I J) : X pc lv st I J := by
  obtain ⟨p, e, R, s, m, args, below, meth, c, A, cells, slots, Q, hx, hb, hml, hown, hts, hK, hA, hj, hR, rfl⟩ := hZ
  intro H locs ls hP hS hl
  exact lv_iload_n hx hb hdg rfl (lv_at hl j hg) (kk H locs ls hP hS hl)
theorem wl_iload (hZ : Rl l D ad cy own cc nL d X) {i : Nat} {x : Int32} (j : Nat) (hg : lv[j]? = some (i, .int x)) (hdg : decode cc pc = .ok (.iload i, 2)) (kk : X (pc + 2) lv (.int x :: st) I J) : X pc lv st I J := by
  obtain ⟨p, e, R, s, m, args, below, meth, c, A, cells, slots, Q, hx, hb, hml, hown, hts, hK, hA, hj, hR, rfl⟩ := hZ
  intro H locs ls hP hS hl
  exact lv_iload hx hb hdg (lv_at hl j hg) (kk H locs ls hP hS hl)
theorem wl_istore_n (hZ : Rl l D ad cy own cc nL d X) {k : Fin 4} {x : Int32} (hg : ((k : Nat), Value.int x) :: lv.filter (fun q => !(q.1 == (k : Nat)) && !(q.1 + 1 == (k : Nat) && q.2.category == 2)) = lv') (hn : (k : Nat) < nL) (hdg : decode cc pc = .ok (.istore_n k, 1)) (kk : X (pc + 1) lv' st I J) : X pc lv (.int x :: st) I J := by
  obtain ⟨p, e, R, s, m, args, below, meth, c, A, cells, slots, Q, hx, hb, hml, hown, hts, hK, hA, hj, hR, rfl⟩ := hZ
  intro H locs ls hP hS hl
  exact lv_istore_n hx hb hdg rfl hl hn hg (fun ls' hl' => kk H locs ls' hP hS hl')
theorem wl_istore (hZ : Rl l D ad cy own cc nL d X) {i : Nat} {x : Int32} (hg : (i, Value.int x) :: lv.filter (fun q => !(q.1 == i) && !(q.1 + 1 == i && q.2.category == 2)) = lv') (hn : i < nL) (hdg : decode cc pc = .ok (.istore i, 2)) (kk : X (pc + 2) lv' st I J) : X pc lv (.int x :: st) I J := by
  obtain ⟨p, e, R, s, m, args, below, meth, c, A, cells, slots, Q, hx, hb, hml, hown, hts, hK, hA, hj, hR, rfl⟩ := hZ
  intro H locs ls hP hS hl
  exact lv_istore hx hb hdg hl hn hg (fun ls' hl' => kk H locs ls' hP hS hl')
theorem wl_lload_n (hZ : Rl l D ad cy own cc nL d X) {k : Fin 4} {x : Int64} (j : Nat) (hg : lv[j]? = some ((k : Nat), .long x)) (hdg : decode cc pc = .ok (.lload_n k, 1)) (kk : X (pc + 1) lv (.long x :: st) I J) : X pc lv st I J := by
  obtain ⟨p, e, R, s, m, args, below, meth, c, A, cells, slots, Q, hx, hb, hml, hown, hts, hK, hA, hj, hR, rfl⟩ := hZ
  intro H locs ls hP hS hl
  exact lv_lload_n hx hb hdg rfl (lv_at hl j hg) (kk H locs ls hP hS hl)
theorem wl_lload (hZ : Rl l D ad cy own cc nL d X) {i : Nat} {x : Int64} (j : Nat) (hg : lv[j]? = some (i, .long x)) (hdg : decode cc pc = .ok (.lload i, 2)) (kk : X (pc + 2) lv (.long x :: st) I J) : X pc lv st I J := by
  obtain ⟨p, e, R, s, m, args, below, meth, c, A, cells, slots, Q, hx, hb, hml, hown, hts, hK, hA, hj, hR, rfl⟩ := hZ
  intro H locs ls hP hS hl
  exact lv_lload hx hb hdg (lv_at hl j hg) (kk H locs ls hP hS hl)
theorem wl_lstore_n (hZ : Rl l D ad cy own cc nL d X) {k : Fin 4} {x : Int64} (hg : ((k : Nat), Value.long x) :: lv.filter (fun q => !(q.1 == (k : Nat)) && (!(q.1 == (k : Nat) + 1) && !(q.1 + 1 == (k : Nat) && q.2.category == 2))) = lv') (hn : (k : Nat) + 1 < nL) (hdg : decode cc pc = .ok (.lstore_n k, 1)) (kk : X (pc + 1) lv' st I J) : X pc lv (.long x :: st) I J := by
  obtain ⟨p, e, R, s, m, args, below, meth, c, A, cells, slots, Q, hx, hb, hml, hown, hts, hK, hA, hj, hR, rfl⟩ := hZ
  intro H locs ls hP hS hl
  exact lv_lstore_n hx hb hdg rfl hl hn hg (fun ls' hl' => kk H locs ls' hP hS hl')
theorem wl_lstore (hZ : Rl l D ad cy own cc nL d X) {i : Nat} {x : Int64} (hg : (i, Value.long x) :: lv.filter (fun q => !(q.1 == i) && (!(q.1 == i + 1) && !(q.1 + 1 == i && q.2.category == 2))) = lv') (hn : i + 1 < nL) (hdg : decode cc pc = .ok (.lstore i, 2)) (kk : X (pc + 2) lv' st I J) : X pc lv (.long x :: st) I J := by
  obtain ⟨p, e, R, s, m, args, below, meth, c, A, cells, slots, Q, hx, hb, hml, hown, hts, hK, hA, hj, hR, rfl⟩ := hZ
  intro H locs ls hP hS hl
  exact lv_lstore hx hb hdg hl hn hg (fun ls' hl' => kk H locs ls' hP hS hl')
theorem wl_aload_n (hZ : Rl l D ad cy own cc nL d X) {k : Fin 4} {x : Nat} (j : Nat) (hg : lv[j]? = some ((k : Nat), .ref x)) (hdg : decode cc pc = .ok (.aload_n k, 1)) (kk : X (pc + 1) lv (.ref x :: st) I J) : X pc lv st I J := by
  obtain ⟨p, e, R, s, m, args, below, meth, c, A, cells, slots, Q, hx, hb, hml, hown, hts, hK, hA, hj, hR, rfl⟩ := hZ
  intro H locs ls hP hS hl
  exact lv_aload_n hx hb hdg rfl (lv_at hl j hg) (kk H locs ls hP hS hl)
theorem wl_aload (hZ : Rl l D ad cy own cc nL d X) {i : Nat} {x : Nat} (j : Nat) (hg : lv[j]? = some (i, .ref x)) (hdg : decode cc pc = .ok (.aload i, 2)) (kk : X (pc + 2) lv (.ref x :: st) I J) : X pc lv st I J := by
  obtain ⟨p, e, R, s, m, args, below, meth, c, A, cells, slots, Q, hx, hb, hml, hown, hts, hK, hA, hj, hR, rfl⟩ := hZ
  intro H locs ls hP hS hl
  exact lv_aload hx hb hdg (lv_at hl j hg) (kk H locs ls hP hS hl)
theorem wl_astore_n (hZ : Rl l D ad cy own cc nL d X) {k : Fin 4} {x : Nat} (hg : ((k : Nat), Value.ref x) :: lv.filter (fun q => !(q.1 == (k : Nat)) && !(q.1 + 1 == (k : Nat) && q.2.category == 2)) = lv') (hn : (k : Nat) < nL) (hdg : decode cc pc = .ok (.astore_n k, 1)) (kk : X (pc + 1) lv' st I J) : X pc lv (.ref x :: st) I J := by
  obtain ⟨p, e, R, s, m, args, below, meth, c, A, cells, slots, Q, hx, hb, hml, hown, hts, hK, hA, hj, hR, rfl⟩ := hZ
  intro H locs ls hP hS hl
  exact lv_astore_n hx hb hdg rfl hl hn hg (fun ls' hl' => kk H locs ls' hP hS hl')
theorem wl_astore (hZ : Rl l D ad cy own cc nL d X) {i : Nat} {x : Nat} (hg : (i, Value.ref x) :: lv.filter (fun q => !(q.1 == i) && !(q.1 + 1 == i && q.2.category == 2)) = lv') (hn : i < nL) (hdg : decode cc pc = .ok (.astore i, 2)) (kk : X (pc + 2) lv' st I J) : X pc lv (.ref x :: st) I J := by
  obtain ⟨p, e, R, s, m, args, below, meth, c, A, cells, slots, Q, hx, hb, hml, hown, hts, hK, hA, hj, hR, rfl⟩ := hZ
  intro H locs ls hP hS hl
  exact lv_astore hx hb hdg hl hn hg (fun ls' hl' => kk H locs ls' hP hS hl')
theorem wl_iinc (hZ : Rl l D ad cy own cc nL d X) {i : Nat} {n : Int} {x v : Int32} (j : Nat) (hg : lv[j]? = some (i, .int x)) (hv : x + Int32.ofInt n = v) (hf : (i, Value.int v) :: lv.filter (fun q => !(q.1 == i) && !(q.1 + 1 == i && q.2.category == 2)) = lv') (hn : i < nL) (hdg : decode cc pc = .ok (.iinc i n, 3)) (kk : X (pc + 3) lv' st I J) : X pc lv st I J := by
  obtain ⟨p, e, R, s, m, args, below, meth, c, A, cells, slots, Q, hx, hb, hml, hown, hts, hK, hA, hj, hR, rfl⟩ := hZ
  intro H locs ls hP hS hl
  exact lv_iinc hx hb hdg hl hg hv hn hf (fun ls' hl' => kk H locs ls' hP hS hl')
theorem wl_sub (hZ : Rl l D ad cy own cc nL d X) (ks : List Nat) (hf : lv_pick lv ks = lv') (kk : X pc lv' st I J) : X pc lv st I J := by
  obtain ⟨p, e, R, s, m, args, below, meth, c, A, cells, slots, Q, hx, hb, hml, hown, hts, hK, hA, hj, hR, rfl⟩ := hZ
  intro H locs ls hP hS hl
  exact kk H locs ls hP hS (lv_sub hl ks hf)
theorem wl_lcmp (hZ : Rl l D ad cy own cc nL d X) {x y : Int64} (hdg : decode cc pc = .ok (.lcmp, 1)) (kk : X (pc + 1) lv (.int (lg_cmp x y) :: st) I J) : X pc lv (.long y :: .long x :: st) I J := by
  obtain ⟨p, e, R, s, m, args, below, meth, c, A, cells, slots, Q, hx, hb, hml, hown, hts, hK, hA, hj, hR, rfl⟩ := hZ
  intro H locs ls hP hS hl
  exact W.lcmp hx hb hdg (kk H locs ls hP hS hl)
theorem wl_ldc (hZ : Rl l D ad cy own cc nL d X) {idx : Nat} {v : Int32} (hc : Cond.constant own idx v ∈ hx_ws) (hdg : decode cc pc = .ok (.ldc idx, 2)) (kk : X (pc + 2) lv (.int v :: st) I J) : X pc lv st I J := by
  obtain ⟨p, e, R, s, m, args, below, meth, c, A, cells, slots, Q, hx, hb, hml, hown, hts, hK, hA, hj, hR, rfl⟩ := hZ
  intro H locs ls hP hS hl
  exact lv_ldc hx hb hown (hts _ hc) hdg (kk H locs ls hP hS hl)
theorem wl_ldc2 (hZ : Rl l D ad cy own cc nL d X) {idx : Nat} {v : Int64} (hc : Cond.constantLong own idx v ∈ hx_ws) (hdg : decode cc pc = .ok (.ldc2_w idx, 3)) (kk : X (pc + 3) lv (.long v :: st) I J) : X pc lv st I J := by
  obtain ⟨p, e, R, s, m, args, below, meth, c, A, cells, slots, Q, hx, hb, hml, hown, hts, hK, hA, hj, hR, rfl⟩ := hZ
  intro H locs ls hP hS hl
  exact lv_ldc2 hx hb hown (hts _ hc) hdg (kk H locs ls hP hS hl)
theorem wl_return {post : hx_PO} (h : Rt cc none post X) (hdg : decode cc pc = .ok (.return_, 1)) (hp : post none I J) : X pc lv [] I J := h.1 rfl pc lv I J hdg hp
theorem wl_ireturn {post : hx_PO} {v : Int32} (h : Rt cc (some .int) post X) (hdg : decode cc pc = .ok (.ireturn, 1)) (hp : post (some (.int v)) I J) : X pc lv [.int v] I J := h.2.1 rfl pc lv I J v hdg hp
theorem wl_zreturn {post : hx_PO} {v : Int32} (h : Rt cc (some .boolean) post X) (hdg : decode cc pc = .ok (.ireturn, 1)) (hv : v = 0 ∨ v = 1) (hp : post (some (.int v)) I J) : X pc lv [.int v] I J := h.2.2.1 rfl pc lv I J v hdg hv hp
theorem wl_lreturn {post : hx_PO} {v : Int64} (h : Rt cc (some .long) post X) (hdg : decode cc pc = .ok (.lreturn, 1)) (hp : post (some (.long v)) I J) : X pc lv [.long v] I J := h.2.2.2 rfl pc lv I J v hdg hp
theorem wl_iald (hZ : Rl l D ad cy own cc nL d X) {k n b : Nat} {i : Int32} (q : Nat) (hk : hx_kd k = (1, n, b)) (hi : i = nI q) (hq : q < n) (hdg : decode cc pc = .ok (.iaload, 1)) (kk : X (pc + 1) lv (.int (I k q) :: st) I J) : X pc lv (.int i :: .ref (ad k) :: st) I J := by
  obtain ⟨p, e, R, s, m, args, below, meth, c, A, cells, slots, Q, hx, hb, hml, hown, hts, hK, hA, hj, hR, rfl⟩ := hZ
  intro H locs ls hP hS hl
  subst hi
  have hn := hx_kd_n hk (by decide)
  have e9 : (nI q).toNatClampNeg = q := nI_clamp (by omega)
  refine va_iald hx hb hK hP k 0 (by rw [hx_at (hx_kd_lt hk (by decide)), hx_ce1 hk]) rfl (vp_in_nI hq hn) hdg ?_
  rw [e9]
  exact kk H locs ls hP hS hl
theorem wl_iast (hZ : Rl l D ad cy own cc nL d X) {k n b : Nat} {i : Int32} {x : Int32} (q : Nat) (hk : hx_kd k = (1, n, b)) (hi : i = nI q) (hq : q < n) (hdg : decode cc pc = .ok (.iastore, 1)) (kk : X (pc + 1) lv st (hx_u I k q x) J) : X pc lv (.int x :: .int i :: .ref (ad k) :: st) I J := by
  obtain ⟨p, e, R, s, m, args, below, meth, c, A, cells, slots, Q, hx, hb, hml, hown, hts, hK, hA, hj, hR, rfl⟩ := hZ
  intro H locs ls hP hS hl
  subst hi
  have hn := hx_kd_n hk (by decide)
  have e9 : (nI q).toNatClampNeg = q := nI_clamp (by omega)
  refine va_iast hx hb hK hP (hx_D hA hj) hS k 0 (by rw [hx_at (hx_kd_lt hk (by decide)), hx_ce1 hk]) rfl (vp_in_nI hq hn) hdg (fun H1 locs1 hP1 hD1 hS1 => ?_)
  rw [e9, hx_set (I' := hx_u I k q x) (J' := J) (by rw [hx_ce1 hk, hx_u_same]) (fun a ha => hx_u_ne I q x ha) (fun _ _ => rfl)] at hP1
  exact kk H1 locs1 ls hP1 hS1 hl
theorem wl_zald (hZ : Rl l D ad cy own cc nL d X) {k n b : Nat} {i : Int32} (q : Nat) (hk : hx_kd k = (2, n, b)) (hi : i = nI q) (hq : q < n) (hdg : decode cc pc = .ok (.baload, 1)) (kk : X (pc + 1) lv (.int (I k q) :: st) I J) : X pc lv (.int i :: .ref (ad k) :: st) I J := by
  obtain ⟨p, e, R, s, m, args, below, meth, c, A, cells, slots, Q, hx, hb, hml, hown, hts, hK, hA, hj, hR, rfl⟩ := hZ
  intro H locs ls hP hS hl
  subst hi
  have hn := hx_kd_n hk (by decide)
  have e9 : (nI q).toNatClampNeg = q := nI_clamp (by omega)
  refine va_zald hx hb hK hP k 1 (by rw [hx_at (hx_kd_lt hk (by decide)), hx_ce2 hk]) rfl (vp_in_nI hq hn) hdg ?_
  rw [e9]
  exact kk H locs ls hP hS hl
theorem wl_zast (hZ : Rl l D ad cy own cc nL d X) {k n b : Nat} {i : Int32} {x : Int32} (q : Nat) (hk : hx_kd k = (2, n, b)) (hi : i = nI q) (hq : q < n) (hz : x = 0 ∨ x = 1) (hdg : decode cc pc = .ok (.bastore, 1)) (kk : X (pc + 1) lv st (hx_u I k q x) J) : X pc lv (.int x :: .int i :: .ref (ad k) :: st) I J := by
  obtain ⟨p, e, R, s, m, args, below, meth, c, A, cells, slots, Q, hx, hb, hml, hown, hts, hK, hA, hj, hR, rfl⟩ := hZ
  intro H locs ls hP hS hl
  subst hi
  have hn := hx_kd_n hk (by decide)
  have e9 : (nI q).toNatClampNeg = q := nI_clamp (by omega)
  refine va_zast hx hb hK hP (hx_D hA hj) hS k 1 (by rw [hx_at (hx_kd_lt hk (by decide)), hx_ce2 hk]) rfl (vp_in_nI hq hn) hdg (fun H1 locs1 hP1 hD1 hS1 => ?_)
  have hz9 : vp_nar .boolean x = x := by rcases hz with rfl | rfl <;> rfl
  rw [hz9] at hP1
  rw [e9, hx_set (I' := hx_u I k q x) (J' := J) (by rw [hx_ce2 hk, hx_u_same]) (fun a ha => hx_u_ne I q x ha) (fun _ _ => rfl)] at hP1
  exact kk H1 locs1 ls hP1 hS1 hl
theorem wl_lald (hZ : Rl l D ad cy own cc nL d X) {k n b : Nat} {i : Int32} (q : Nat) (hk : hx_kd k = (3, n, b)) (hi : i = nI q) (hq : q < n) (hdg : decode cc pc = .ok (.laload, 1)) (kk : X (pc + 1) lv (.long (J k q) :: st) I J) : X pc lv (.int i :: .ref (ad k) :: st) I J := by
  obtain ⟨p, e, R, s, m, args, below, meth, c, A, cells, slots, Q, hx, hb, hml, hown, hts, hK, hA, hj, hR, rfl⟩ := hZ
  intro H locs ls hP hS hl
  subst hi
  have hn := hx_kd_n hk (by decide)
  have e9 : (nI q).toNatClampNeg = q := nI_clamp (by omega)
  refine va_lald hx hb hK hP k 2 (by rw [hx_at (hx_kd_lt hk (by decide)), hx_ce3 hk]) rfl (vp_in_nI hq hn) hdg ?_
  rw [e9]
  exact kk H locs ls hP hS hl
theorem wl_last (hZ : Rl l D ad cy own cc nL d X) {k n b : Nat} {i : Int32} {x : Int64} (q : Nat) (hk : hx_kd k = (3, n, b)) (hi : i = nI q) (hq : q < n) (hdg : decode cc pc = .ok (.lastore, 1)) (kk : X (pc + 1) lv st I (hx_uJ J k q x)) : X pc lv (.long x :: .int i :: .ref (ad k) :: st) I J := by
  obtain ⟨p, e, R, s, m, args, below, meth, c, A, cells, slots, Q, hx, hb, hml, hown, hts, hK, hA, hj, hR, rfl⟩ := hZ
  intro H locs ls hP hS hl
  subst hi
  have hn := hx_kd_n hk (by decide)
  have e9 : (nI q).toNatClampNeg = q := nI_clamp (by omega)
  refine va_last hx hb hK hP (hx_D hA hj) hS k 2 (by rw [hx_at (hx_kd_lt hk (by decide)), hx_ce3 hk]) rfl (vp_in_nI hq hn) hdg (fun H1 locs1 hP1 hD1 hS1 => ?_)
  rw [e9, hx_set (I' := I) (J' := hx_uJ J k q x) (by rw [hx_ce3 hk, hx_uJ_same]) (fun _ _ => rfl) (fun a ha => hx_uJ_ne J q x ha)] at hP1
  exact kk H1 locs1 ls hP1 hS1 hl
theorem wl_aald4 (hZ : Rl l D ad cy own cc nL d X) {k n b : Nat} {i : Int32} (q : Nat) (hk : hx_kd k = (4, n, b)) (hi : i = nI q) (hq : q < n) (hdg : decode cc pc = .ok (.aaload, 1)) (kk : X (pc + 1) lv (.ref (ad (b + q)) :: st) I J) : X pc lv (.int i :: .ref (ad k) :: st) I J := by
  obtain ⟨p, e, R, s, m, args, below, meth, c, A, cells, slots, Q, hx, hb, hml, hown, hts, hK, hA, hj, hR, rfl⟩ := hZ
  intro H locs ls hP hS hl
  subst hi
  have hn := hx_kd_n hk (by decide)
  have e9 : (nI q).toNatClampNeg = q := nI_clamp (by omega)
  have ha : (hx_w ad cy I J)[k]? = some (ad k, .inl (cy 4, n, .inr (.inr (.inr (.inr (hx_rows ad n b)))))) := (by rw [hx_at (hx_kd_lt hk (by decide)), hx_ce4 hk])
  exact W.aald (v := .ref (ad (b + q))) (ty := .array .int) hx hb (hP k _ ha) ((hK.2 3 _ rfl).1 n (fun j => va_rf (hx_rows ad n b j))) rfl (fun q => by cases q) (by show ¬ (_ < 0 ∨ (arrV _ _ _).slots.size ≤ _); rw [arrV_size]; exact vp_in_nI hq hn) (by show (arrV _ _ _).slots[_]? = _; rw [e9, arrV_read _ _ hq]; simp [va_rf, hx_rows, hq]) rfl rfl hdg (kk H locs ls hP hS hl)
theorem wl_aald5 (hZ : Rl l D ad cy own cc nL d X) {k n b : Nat} {i : Int32} (q : Nat) (hk : hx_kd k = (5, n, b)) (hi : i = nI q) (hq : q < n) (hdg : decode cc pc = .ok (.aaload, 1)) (kk : X (pc + 1) lv (.ref (ad (b + q)) :: st) I J) : X pc lv (.int i :: .ref (ad k) :: st) I J := by
  obtain ⟨p, e, R, s, m, args, below, meth, c, A, cells, slots, Q, hx, hb, hml, hown, hts, hK, hA, hj, hR, rfl⟩ := hZ
  intro H locs ls hP hS hl
  subst hi
  have hn := hx_kd_n hk (by decide)
  have e9 : (nI q).toNatClampNeg = q := nI_clamp (by omega)
  have ha : (hx_w ad cy I J)[k]? = some (ad k, .inl (cy 5, n, .inr (.inr (.inr (.inr (hx_rows ad n b)))))) := (by rw [hx_at (hx_kd_lt hk (by decide)), hx_ce5 hk])
  exact W.aald (v := .ref (ad (b + q))) (ty := .array .long) hx hb (hP k _ ha) ((hK.2 4 _ rfl).1 n (fun j => va_rf (hx_rows ad n b j))) rfl (fun q => by cases q) (by show ¬ (_ < 0 ∨ (arrV _ _ _).slots.size ≤ _); rw [arrV_size]; exact vp_in_nI hq hn) (by show (arrV _ _ _).slots[_]? = _; rw [e9, arrV_read _ _ hq]; simp [va_rf, hx_rows, hq]) rfl rfl hdg (kk H locs ls hP hS hl)
theorem wl_get (hZ : Rl l D ad cy own cc nL d X) {k ci N j idx : Nat} {C : String} {T : u_T} {fs : List Value} {v : Value} (hob : hx_ob ad I J k = (ci, fs)) (h6 : k < 6) (hc : vwCl[ci]? = some (C, T, N)) (hin : ∀ w ∈ u_ws C T N, w ∈ hx_ws) (hjN : j < N) (hlk : Cond.fieldLink own idx (T j).1 (T j).2.1 (T j).2.2.1 ∈ hx_ws) (hv : fs[j]? = some v) (hdg : decode cc pc = .ok (.getfield idx, 3)) (kk : X (pc + 3) lv (v :: st) I J) : X pc lv (.ref (ad k) :: st) I J := by
  obtain ⟨p, e, R, s, m, args, below, meth, c, A, cells, slots, Q, hx, hb, hml, hown, hts, hK, hA, hj, hR, rfl⟩ := hZ
  intro H locs ls hP hS hl
  exact va_get (D := D) (ref := (T j).1) (C := C) (T := T) (N := N) hx hb (Ts := hx_ws) hts hin hown hK hP k (by rw [hx_at (by omega)]; unfold hx_ce; rw [if_pos h6, hob]) hc j hjN (hts _ hlk) (fun _ h9 => h9) hv hdg (kk H locs ls hP hS hl)
theorem wl_put (hZ : Rl l D ad cy own cc nL d X) {k ci N j idx : Nat} {C : String} {T : u_T} {fs : List Value} {v : Value} {ty : Nat → FieldType} {I' : MI} {J' : MJ} (hob : hx_ob ad I J k = (ci, fs)) (hob' : hx_ob ad I' J' k = (ci, fs.set j v)) (h6 : k < 6) (hc : vwCl[ci]? = some (C, T, N)) (hin : ∀ w ∈ u_ws C T N, w ∈ hx_ws) (hty : ∀ k, k < N → parseFieldDescriptor (T k).2.2.1 = some (ty k)) (hnm : ∀ a, a < N → ∀ b, b < N → a ≠ b → (T a).2.1 ≠ (T b).2.1) (hjN : j < N) (hlk : Cond.fieldLink own idx (T j).1 (T j).2.1 (T j).2.2.1 ∈ hx_ws) (hfin : (T j).2.2.2 = false) (hn : narrow (ty j) v = v) (hfit : fits (ty j) v = true) (hlen : j < fs.length) (h1 : ∀ a, a ≠ k → I' a = I a) (h2 : ∀ a, a ≠ k → J' a = J a) (hdg : decode cc pc = .ok (.putfield idx, 3)) (kk : X (pc + 3) lv st I' J') : X pc lv (v :: .ref (ad k) :: st) I J := by
  obtain ⟨p, e, R, s, m, args, below, meth, c, A, cells, slots, Q, hx, hb, hml, hown, hts, hK, hA, hj, hR, rfl⟩ := hZ
  intro H locs ls hP hS hl
  refine va_put (D := D) (ref := (T j).1) (C := C) (T := T) (N := N) hx hb (Ts := hx_ws) hts hin ty hty hnm hown hK hP (hx_D hA hj) hS k (by rw [hx_at (by omega)]; unfold hx_ce; rw [if_pos h6, hob]) hc j hjN (hts _ hlk) (fun _ h9 => h9) hfin (hty j hjN) hn hfit hlen hdg (fun H1 locs1 hP1 hD1 hS1 => ?_)
  rw [hx_set (I' := I') (J' := J') (by unfold hx_ce; rw [if_pos h6, hob']) h1 h2] at hP1
  exact kk H1 locs1 ls hP1 hS1 hl
theorem hx_call {p : Program} {e : Env} {R : Room} {s : State} {m : MethodId} {args : Array Value} {below : List Frame} {meth : Method} {c : Code} {H H0 : Heap} {locs : List Loc} {cells slots : Nat} {Q : State → Prop} {ls : Array Slot} {rest st0 : List Value} {a : Array Value} {A0 free : Nat → Prop} {post : hx_PO} (hr : va_Run p l e R s m args below meth c H locs cells slots 0 0 (F0 m pc ls st0) rest (hx_Qc D ad cy post a) free) (hS : va_S A0 H0 H locs) (hA : ∀ q, q < H.size → AA ad q → A0 q) (hf : ∀ q, free q → A0 q)
    (kk : ∀ (v : Option Value) (I' : MI) (J' : MJ) (H1 : Heap) (locs1 : List Loc), post v I' J' → va_P D vwCl (hx_w ad cy I' J') H1 → va_S A0 H0 H1 locs1 → W p l e R s m args below meth c H1 locs1 cells slots Q (F0 m (pc + 3) ls (v.toList ++ rest))) : W p l e R s m args below meth c H locs cells slots Q (F0 m pc ls st0) := by
  intro T hT X
  obtain ⟨v, st₀, t, T', L, h0, X', hL, e1, e2, ⟨⟨v', I', J', hv, hp, hb⟩, hz, hk⟩, st⟩ := hr T hT X
  cases hv
  rw [h0] at hz hk
  obtain ⟨t2, a1, b1⟩ := kk v I' J' T'.heap (locs ++ L) hp (by rw [e1]; exact hb)
    ⟨Nat.le_trans hS.1 (by rw [e1]; exact hz), fun q h1 h2 => by rw [e1, hk q (Nat.lt_of_lt_of_le h1 hS.1) (fun z => h2 (hA q (Nat.lt_of_lt_of_le h1 hS.1) z))]; exact hS.2.1 q h1 h2, fun q hq => by
      rcases List.mem_append.mp hq with h | h
      · exact hS.2.2 q h
      · exact hf _ (hL q h)⟩ T' rfl X'
  exact ⟨t2, st t2 a1, b1⟩
/-- what the tables say of a method that is called on an object, of a static one: n parameters -/
def hx_MV (y : MethodName) (bytes : ByteArray) (maxL : Nat) (ret : Option FieldType) (n : Nat) : Prop := Cond.instanceMethod y ∈ hx_ws ∧ Cond.selects y.cls y y ∈ hx_ws ∧ Cond.initialized y.cls ∈ hx_ws ∧ Cond.code y bytes maxL ret ∈ hx_ws ∧ (y.cls ≠ "java/lang/invoke/MethodHandle" ∧ y.cls ≠ "java/lang/invoke/VarHandle" ∧ (parseMethodDescriptor y.desc).map (fun d => d.parameters.length) = some n) ∧ maxL ≤ 40
def hx_MS (y : MethodName) (bytes : ByteArray) (maxL : Nat) (ret : Option FieldType) (n : Nat) : Prop := Cond.static y ∈ hx_ws ∧ Cond.initialized y.cls ∈ hx_ws ∧ Cond.code y bytes maxL ret ∈ hx_ws ∧ (y.cls ≠ "java/lang/invoke/MethodHandle" ∧ y.cls ≠ "java/lang/invoke/VarHandle" ∧ (parseMethodDescriptor y.desc).map (fun d => d.parameters.length) = some n) ∧ maxL ≤ 40
theorem hx_good {y : MethodName} {bytes : ByteArray} {maxL : Nat} {ret : Option FieldType} (hc : Cond.code y bytes maxL ret ∈ hx_ws) : GoodIn hx_ws (Cond.code y bytes maxL ret :: hx_ws) := by
  intro w hw
  have h1 : w ∈ hx_ws := by
    rcases List.mem_cons.mp hw with rfl | h
    · exact hc
    · exact h
  exact ⟨h1, good_of_word (List.mem_filter.mp h1).2⟩
theorem wl_callV (hZ : Rl l D ad cy own cc nL d X) {y : MethodName} {bytes : ByteArray} {maxL n d' idx k : Nat} {ret : Option FieldType} {As rest stk : List Value} {post : hx_PO} {q : vw_C} (hM : Ct l D ad cy y bytes maxL ret d' (.ref (ad k) :: As) I J post) (mv : hx_MV y bytes maxL ret n) (hlk : Cond.methodLink own idx y ∈ hx_ws) (h6 : k < 6) (hc : vwCl[(hx_ob ad I J k).1]? = some q) (hq : q.1 = y.cls) (hn : As.length = n) (hst : stk = As.reverse ++ .ref (ad k) :: rest) (hd : d' + 1 ≤ d) (hw8 : (rest.map fun v => v.category).sum ≤ 8) (hdg : decode cc pc = .ok (.invokevirtual idx, 3)) (kk : ∀ v I' J', post v I' J' → X (pc + 3) lv (v.toList ++ rest) I' J') : X pc lv stk I J := by
  subst hst
  obtain ⟨p, e, R, s, m, args, below, meth, c, A, cells, slots, Q, hx, hb, hml, hown, hts, hK, hA, hj, hR, rfl⟩ := hZ
  intro H locs ls hP hS hl
  obtain ⟨m1, m2, m3, m4, m5, m6⟩ := mv
  obtain ⟨r1, r2, r3, r4⟩ := hR
  have he : (hx_w ad cy I J)[k]? = some (ad k, .inr ((hx_ob ad I J k).1, (hx_ob ad I J k).2)) := by rw [hx_at (by omega)]; unfold hx_ce; rw [if_pos h6]
  have cw : CallW R s args own y.cls idx y bytes maxL ret (Cond.code y bytes maxL ret :: hx_ws) (hx_rm d') 0 0 n := ⟨callB_of n hts (hx_good m4) rfl rfl rfl (hts _ m3) (hts _ hlk) m5 ⟨by show d' + 1 ≤ _; omega, by show 8 + (maxL + 11) + 64 * d' ≤ _; omega⟩, hts _ m1, hts _ m2⟩
  refine hx_call (va_runV (g := F0 m pc ls (As.reverse ++ .ref (ad k) :: rest)) ⟨hx, hb, hml, hown, hts⟩ hM cw ⟨hx_blind, ?_, fun U hU hW => ⟨rfl, by rw [hU]; exact hP, va_K.moved hW.alike hK⟩⟩ rfl hn hl.1 rfl (lv_room hw8) hdg ⟨r3, r4⟩) hS (fun q _ h => by obtain ⟨k9, h9, rfl⟩ := h; exact hA k9 h9) (fun q h => by obtain ⟨k9, h9, rfl⟩ := h; exact hA k9 h9) (fun v I' J' H1 locs1 hp hP1 hS1 => kk v I' J' hp H1 locs1 ls hP1 hS1 hl)
  have := va_recv hK hP hc he
  rw [hq] at this
  exact this
theorem wl_callS (hZ : Rl l D ad cy own cc nL d X) {y : MethodName} {bytes : ByteArray} {maxL n d' idx : Nat} {ret : Option FieldType} {As rest stk : List Value} {post : hx_PO} (hM : Ct l D ad cy y bytes maxL ret d' As I J post) (mv : hx_MS y bytes maxL ret n) (hlk : Cond.methodLink own idx y ∈ hx_ws) (hn : As.length = n) (hst : stk = As.reverse ++ rest) (hd : d' + 1 ≤ d) (hw8 : (rest.map fun v => v.category).sum ≤ 8) (hdg : decode cc pc = .ok (.invokestatic idx, 3)) (kk : ∀ v I' J', post v I' J' → X (pc + 3) lv (v.toList ++ rest) I' J') : X pc lv stk I J := by
  subst hst
  obtain ⟨p, e, R, s, m, args, below, meth, c, A, cells, slots, Q, hx, hb, hml, hown, hts, hK, hA, hj, hR, rfl⟩ := hZ
  intro H locs ls hP hS hl
  obtain ⟨m1, m3, m4, m5, m6⟩ := mv
  obtain ⟨r1, r2, r3, r4⟩ := hR
  have cw : CallB R s args own idx y bytes maxL ret (Cond.code y bytes maxL ret :: hx_ws) (hx_rm d') 0 0 n := callB_of n hts (hx_good m4) rfl rfl rfl (hts _ m3) (hts _ hlk) m5 ⟨by show d' + 1 ≤ _; omega, by show 8 + (maxL + 11) + 64 * d' ≤ _; omega⟩
  exact hx_call (va_runS (g := F0 m pc ls (As.reverse ++ rest)) ⟨hx, hb, hml, hown, hts⟩ hM ⟨cw, hts _ m1⟩ ⟨hx_blind, fun U hU hW => ⟨rfl, by rw [hU]; exact hP, va_K.moved hW.alike hK⟩⟩ rfl hn hl.1 rfl (lv_room hw8) hdg ⟨r3, r4⟩) hS (fun q _ h => by obtain ⟨k9, h9, rfl⟩ := h; exact hA k9 h9) (fun q h => by obtain ⟨k9, h9, rfl⟩ := h; exact hA k9 h9) (fun v I' J' H1 locs1 hp hP1 hS1 => kk v I' J' hp H1 locs1 ls hP1 hS1 hl)
/-- ints copied from a cell's start to another's -/
def hx_cp (I : MI) (k0 k1 n : Nat) : MI := fun a => if a = k1 then va_cpy (I k0) (I k1) 0 0 n else I a
theorem wl_copy (hZ : Rl l D ad cy own cc nL d X) {idx k0 k1 n0 n1 b0 b1 n : Nat} {z1 z2 w : Int32} (hk0 : hx_kd k0 = (1, n0, b0)) (hk1 : hx_kd k1 = (1, n1, b1)) (hw : w = nI n) (hz1 : z1 = 0) (hz2 : z2 = 0) (h0 : n ≤ n0) (h1 : n ≤ n1) (hd : 1 ≤ d) (hlk : Cond.methodLink own idx arraycopyName ∈ hx_ws) (hnat : Cond.native arraycopyName ∈ hx_ws) (hstat : Cond.static arraycopyName ∈ hx_ws) (hini : Cond.initialized "java/lang/System" ∈ hx_ws) (hdg : decode cc pc = .ok (.invokestatic idx, 3)) (kk : X (pc + 3) lv [] (hx_cp I k0 k1 n) J) : X pc lv [.int w, .int z2, .ref (ad k1), .int z1, .ref (ad k0)] I J := by
  subst hz1; subst hz2; subst hw
  obtain ⟨p, e, R, s, m, args, below, meth, c, A, cells, slots, Q, hx, hb, hml, hown, hts, hK, hA, hj, hR, rfl⟩ := hZ
  intro H locs ls hP hS hl
  obtain ⟨r1, r2, r3, r4⟩ := hR
  have hn0 := hx_kd_n hk0 (by decide)
  have e9 : (nI n).toNatClampNeg = n := nI_clamp (by omega)
  have e0 : (0 : Int32).toNatClampNeg = 0 := rfl
  refine va_copyi hx hb (hml.trans hl.1.symm) hown (hts _ hlk) (hts _ hnat) (hts _ hstat) (hts _ hini) hK hP (hx_D hA hj) hS k0 k1 0 0 (by rw [hx_at (hx_kd_lt hk0 (by decide)), hx_ce1 hk0]) (by rw [hx_at (hx_kd_lt hk1 (by decide)), hx_ce1 hk1]) rfl rfl rfl (by decide) (by decide) (nI_pos (by omega)) (by rw [e0, e9]; omega) (by rw [e0, e9]; omega) (fun _ _ => rfl) (by omega) ?_ hdg (fun H1 locs1 hP1 hD1 hS1 => ?_)
  · have : nativeFrameWords "java/lang/System" "arraycopy" 5 + 11 ≤ 64 := by decide +kernel
    simp only [List.map_nil, List.sum_nil]
    omega
  · rw [e9, e0, hx_set (I' := hx_cp I k0 k1 n) (J' := J) (by rw [hx_ce1 hk1]; unfold hx_cp; rw [if_pos rfl]) (fun a ha => if_neg ha) (fun _ _ => rfl)] at hP1
    exact kk H1 locs1 ls hP1 hS1 hl
end WLR
end
section
/-! a rule a field; what the tables say of each method -/
abbrev hx_is (r : Option Value) (I1 : MI) (J1 : MJ) : hx_PO := fun v I' J' => v = r ∧ I' = I1 ∧ J' = J1
section WLF
variable {l : Launch} {D : va_G} {ad : Nat → Nat} {cy : Nat → ClassId} {own : String} {cc : ByteArray} {nL d : Nat} {X : HX} {pc : Nat} {lv lv' : List (Nat × Value)} {st : List Value} {I : MI} {J : MJ}
theorem gf_X0_0 (hZ : Rl l D ad cy own cc nL d X) {idx : Nat} (hlk : Cond.fieldLink own idx "DearVotes$Fund" "house" "LDearVotes$House;" ∈ hx_ws) (hdg : decode cc pc = .ok (.getfield idx, 3)) (kk : X (pc + 3) lv (.ref (ad 1) :: st) I J) : X pc lv (.ref (ad 4) :: st) I J := wl_get hZ (k := 4) (ci := 0) (j := 0) rfl (by decide) rfl inX0 (by decide) hlk rfl hdg kk
theorem gf_X0_1 (hZ : Rl l D ad cy own cc nL d X) {idx : Nat} (hlk : Cond.fieldLink own idx "DearVotes$Fund" "projects" "I" ∈ hx_ws) (hdg : decode cc pc = .ok (.getfield idx, 3)) (kk : X (pc + 3) lv (.int (I 4 1) :: st) I J) : X pc lv (.ref (ad 4) :: st) I J := wl_get hZ (k := 4) (ci := 0) (j := 1) rfl (by decide) rfl inX0 (by decide) hlk rfl hdg kk
theorem pf_X0_1 (hZ : Rl l D ad cy own cc nL d X) {idx : Nat} {x : Int32} (hlk : Cond.fieldLink own idx "DearVotes$Fund" "projects" "I" ∈ hx_ws) (hdg : decode cc pc = .ok (.putfield idx, 3)) (kk : X (pc + 3) lv st (hx_u I 4 1 x) J) : X pc lv (.int x :: .ref (ad 4) :: st) I J := wl_put hZ (k := 4) (ci := 0) (j := 1) (ty := tyX0) (I' := hx_u I 4 1 x) (J' := J) rfl rfl (by decide) rfl inX0 tyX0_ok nmX0 (by decide) hlk rfl rfl rfl (Nat.le_of_ble_eq_true rfl) (fun a ha => hx_u_ne I 1 x ha) (fun _ _ => rfl) hdg kk
theorem gf_X0_2 (hZ : Rl l D ad cy own cc nL d X) {idx : Nat} (hlk : Cond.fieldLink own idx "DearVotes$Fund" "gifts" "[[I" ∈ hx_ws) (hdg : decode cc pc = .ok (.getfield idx, 3)) (kk : X (pc + 3) lv (.ref (ad 17) :: st) I J) : X pc lv (.ref (ad 4) :: st) I J := wl_get hZ (k := 4) (ci := 0) (j := 2) rfl (by decide) rfl inX0 (by decide) hlk rfl hdg kk
theorem gf_X0_3 (hZ : Rl l D ad cy own cc nL d X) {idx : Nat} (hlk : Cond.fieldLink own idx "DearVotes$Fund" "bonds" "[[I" ∈ hx_ws) (hdg : decode cc pc = .ok (.getfield idx, 3)) (kk : X (pc + 3) lv (.ref (ad 18) :: st) I J) : X pc lv (.ref (ad 4) :: st) I J := wl_get hZ (k := 4) (ci := 0) (j := 3) rfl (by decide) rfl inX0 (by decide) hlk rfl hdg kk
theorem gf_X0_4 (hZ : Rl l D ad cy own cc nL d X) {idx : Nat} (hlk : Cond.fieldLink own idx "DearVotes$Fund" "lows" "[J" ∈ hx_ws) (hdg : decode cc pc = .ok (.getfield idx, 3)) (kk : X (pc + 3) lv (.ref (ad 19) :: st) I J) : X pc lv (.ref (ad 4) :: st) I J := wl_get hZ (k := 4) (ci := 0) (j := 4) rfl (by decide) rfl inX0 (by decide) hlk rfl hdg kk
theorem gf_X1_0 (hZ : Rl l D ad cy own cc nL d X) {idx : Nat} (hlk : Cond.fieldLink own idx "DearVotes$House" "people" "I" ∈ hx_ws) (hdg : decode cc pc = .ok (.getfield idx, 3)) (kk : X (pc + 3) lv (.int (I 1 0) :: st) I J) : X pc lv (.ref (ad 1) :: st) I J := wl_get hZ (k := 1) (ci := 1) (j := 0) rfl (by decide) rfl inX1 (by decide) hlk rfl hdg kk
theorem pf_X1_0 (hZ : Rl l D ad cy own cc nL d X) {idx : Nat} {x : Int32} (hlk : Cond.fieldLink own idx "DearVotes$House" "people" "I" ∈ hx_ws) (hdg : decode cc pc = .ok (.putfield idx, 3)) (kk : X (pc + 3) lv st (hx_u I 1 0 x) J) : X pc lv (.int x :: .ref (ad 1) :: st) I J := wl_put hZ (k := 1) (ci := 1) (j := 0) (ty := tyX1) (I' := hx_u I 1 0 x) (J' := J) rfl rfl (by decide) rfl inX1 tyX1_ok nmX1 (by decide) hlk rfl rfl rfl (Nat.le_of_ble_eq_true rfl) (fun a ha => hx_u_ne I 0 x ha) (fun _ _ => rfl) hdg kk
theorem gf_X1_1 (hZ : Rl l D ad cy own cc nL d X) {idx : Nat} (hlk : Cond.fieldLink own idx "DearVotes$House" "questions" "I" ∈ hx_ws) (hdg : decode cc pc = .ok (.getfield idx, 3)) (kk : X (pc + 3) lv (.int (I 1 1) :: st) I J) : X pc lv (.ref (ad 1) :: st) I J := wl_get hZ (k := 1) (ci := 1) (j := 1) rfl (by decide) rfl inX1 (by decide) hlk rfl hdg kk
theorem pf_X1_1 (hZ : Rl l D ad cy own cc nL d X) {idx : Nat} {x : Int32} (hlk : Cond.fieldLink own idx "DearVotes$House" "questions" "I" ∈ hx_ws) (hdg : decode cc pc = .ok (.putfield idx, 3)) (kk : X (pc + 3) lv st (hx_u I 1 1 x) J) : X pc lv (.int x :: .ref (ad 1) :: st) I J := wl_put hZ (k := 1) (ci := 1) (j := 1) (ty := tyX1) (I' := hx_u I 1 1 x) (J' := J) rfl rfl (by decide) rfl inX1 tyX1_ok nmX1 (by decide) hlk rfl rfl rfl (Nat.le_of_ble_eq_true rfl) (fun a ha => hx_u_ne I 1 x ha) (fun _ _ => rfl) hdg kk
theorem gf_X1_2 (hZ : Rl l D ad cy own cc nL d X) {idx : Nat} (hlk : Cond.fieldLink own idx "DearVotes$House" "seed" "I" ∈ hx_ws) (hdg : decode cc pc = .ok (.getfield idx, 3)) (kk : X (pc + 3) lv (.int (I 1 2) :: st) I J) : X pc lv (.ref (ad 1) :: st) I J := wl_get hZ (k := 1) (ci := 1) (j := 2) rfl (by decide) rfl inX1 (by decide) hlk rfl hdg kk
theorem pf_X1_2 (hZ : Rl l D ad cy own cc nL d X) {idx : Nat} {x : Int32} (hlk : Cond.fieldLink own idx "DearVotes$House" "seed" "I" ∈ hx_ws) (hdg : decode cc pc = .ok (.putfield idx, 3)) (kk : X (pc + 3) lv st (hx_u I 1 2 x) J) : X pc lv (.int x :: .ref (ad 1) :: st) I J := wl_put hZ (k := 1) (ci := 1) (j := 2) (ty := tyX1) (I' := hx_u I 1 2 x) (J' := J) rfl rfl (by decide) rfl inX1 tyX1_ok nmX1 (by decide) hlk rfl rfl rfl (Nat.le_of_ble_eq_true rfl) (fun a ha => hx_u_ne I 2 x ha) (fun _ _ => rfl) hdg kk
theorem gf_X1_3 (hZ : Rl l D ad cy own cc nL d X) {idx : Nat} (hlk : Cond.fieldLink own idx "DearVotes$House" "budgets" "[I" ∈ hx_ws) (hdg : decode cc pc = .ok (.getfield idx, 3)) (kk : X (pc + 3) lv (.ref (ad 6) :: st) I J) : X pc lv (.ref (ad 1) :: st) I J := wl_get hZ (k := 1) (ci := 1) (j := 3) rfl (by decide) rfl inX1 (by decide) hlk rfl hdg kk
theorem gf_X1_4 (hZ : Rl l D ad cy own cc nL d X) {idx : Nat} (hlk : Cond.fieldLink own idx "DearVotes$House" "present" "[Z" ∈ hx_ws) (hdg : decode cc pc = .ok (.getfield idx, 3)) (kk : X (pc + 3) lv (.ref (ad 7) :: st) I J) : X pc lv (.ref (ad 1) :: st) I J := wl_get hZ (k := 1) (ci := 1) (j := 4) rfl (by decide) rfl inX1 (by decide) hlk rfl hdg kk
theorem gf_X1_5 (hZ : Rl l D ad cy own cc nL d X) {idx : Nat} (hlk : Cond.fieldLink own idx "DearVotes$House" "voices" "[[I" ∈ hx_ws) (hdg : decode cc pc = .ok (.getfield idx, 3)) (kk : X (pc + 3) lv (.ref (ad 8) :: st) I J) : X pc lv (.ref (ad 1) :: st) I J := wl_get hZ (k := 1) (ci := 1) (j := 5) rfl (by decide) rfl inX1 (by decide) hlk rfl hdg kk
theorem gf_X1_6 (hZ : Rl l D ad cy own cc nL d X) {idx : Nat} (hlk : Cond.fieldLink own idx "DearVotes$House" "worths" "[[I" ∈ hx_ws) (hdg : decode cc pc = .ok (.getfield idx, 3)) (kk : X (pc + 3) lv (.ref (ad 9) :: st) I J) : X pc lv (.ref (ad 1) :: st) I J := wl_get hZ (k := 1) (ci := 1) (j := 6) rfl (by decide) rfl inX1 (by decide) hlk rfl hdg kk
theorem gf_X2_0 (hZ : Rl l D ad cy own cc nL d X) {idx : Nat} (hlk : Cond.fieldLink own idx "DearVotes$Rounds" "house" "LDearVotes$House;" ∈ hx_ws) (hdg : decode cc pc = .ok (.getfield idx, 3)) (kk : X (pc + 3) lv (.ref (ad 1) :: st) I J) : X pc lv (.ref (ad 3) :: st) I J := wl_get hZ (k := 3) (ci := 2) (j := 0) rfl (by decide) rfl inX2 (by decide) hlk rfl hdg kk
theorem gf_X2_1 (hZ : Rl l D ad cy own cc nL d X) {idx : Nat} (hlk : Cond.fieldLink own idx "DearVotes$Rounds" "search" "LDearVotes$Search;" ∈ hx_ws) (hdg : decode cc pc = .ok (.getfield idx, 3)) (kk : X (pc + 3) lv (.ref (ad 2) :: st) I J) : X pc lv (.ref (ad 3) :: st) I J := wl_get hZ (k := 3) (ci := 2) (j := 1) rfl (by decide) rfl inX2 (by decide) hlk rfl hdg kk
theorem gf_X2_2 (hZ : Rl l D ad cy own cc nL d X) {idx : Nat} (hlk : Cond.fieldLink own idx "DearVotes$Rounds" "trail" "[[J" ∈ hx_ws) (hdg : decode cc pc = .ok (.getfield idx, 3)) (kk : X (pc + 3) lv (.ref (ad 16) :: st) I J) : X pc lv (.ref (ad 3) :: st) I J := wl_get hZ (k := 3) (ci := 2) (j := 2) rfl (by decide) rfl inX2 (by decide) hlk rfl hdg kk
theorem gf_X2_3 (hZ : Rl l D ad cy own cc nL d X) {idx : Nat} (hlk : Cond.fieldLink own idx "DearVotes$Rounds" "doneEver" "I" ∈ hx_ws) (hdg : decode cc pc = .ok (.getfield idx, 3)) (kk : X (pc + 3) lv (.int (I 3 3) :: st) I J) : X pc lv (.ref (ad 3) :: st) I J := wl_get hZ (k := 3) (ci := 2) (j := 3) rfl (by decide) rfl inX2 (by decide) hlk rfl hdg kk
theorem pf_X2_3 (hZ : Rl l D ad cy own cc nL d X) {idx : Nat} {x : Int32} (hlk : Cond.fieldLink own idx "DearVotes$Rounds" "doneEver" "I" ∈ hx_ws) (hdg : decode cc pc = .ok (.putfield idx, 3)) (kk : X (pc + 3) lv st (hx_u I 3 3 x) J) : X pc lv (.int x :: .ref (ad 3) :: st) I J := wl_put hZ (k := 3) (ci := 2) (j := 3) (ty := tyX2) (I' := hx_u I 3 3 x) (J' := J) rfl rfl (by decide) rfl inX2 tyX2_ok nmX2 (by decide) hlk rfl rfl rfl (Nat.le_of_ble_eq_true rfl) (fun a ha => hx_u_ne I 3 x ha) (fun _ _ => rfl) hdg kk
theorem gf_X2_4 (hZ : Rl l D ad cy own cc nL d X) {idx : Nat} (hlk : Cond.fieldLink own idx "DearVotes$Rounds" "changesEver" "I" ∈ hx_ws) (hdg : decode cc pc = .ok (.getfield idx, 3)) (kk : X (pc + 3) lv (.int (I 3 4) :: st) I J) : X pc lv (.ref (ad 3) :: st) I J := wl_get hZ (k := 3) (ci := 2) (j := 4) rfl (by decide) rfl inX2 (by decide) hlk rfl hdg kk
theorem pf_X2_4 (hZ : Rl l D ad cy own cc nL d X) {idx : Nat} {x : Int32} (hlk : Cond.fieldLink own idx "DearVotes$Rounds" "changesEver" "I" ∈ hx_ws) (hdg : decode cc pc = .ok (.putfield idx, 3)) (kk : X (pc + 3) lv st (hx_u I 3 4 x) J) : X pc lv (.int x :: .ref (ad 3) :: st) I J := wl_put hZ (k := 3) (ci := 2) (j := 4) (ty := tyX2) (I' := hx_u I 3 4 x) (J' := J) rfl rfl (by decide) rfl inX2 tyX2_ok nmX2 (by decide) hlk rfl rfl rfl (Nat.le_of_ble_eq_true rfl) (fun a ha => hx_u_ne I 4 x ha) (fun _ _ => rfl) hdg kk
theorem gf_X2_5 (hZ : Rl l D ad cy own cc nL d X) {idx : Nat} (hlk : Cond.fieldLink own idx "DearVotes$Rounds" "ending" "I" ∈ hx_ws) (hdg : decode cc pc = .ok (.getfield idx, 3)) (kk : X (pc + 3) lv (.int (I 3 5) :: st) I J) : X pc lv (.ref (ad 3) :: st) I J := wl_get hZ (k := 3) (ci := 2) (j := 5) rfl (by decide) rfl inX2 (by decide) hlk rfl hdg kk
theorem pf_X2_5 (hZ : Rl l D ad cy own cc nL d X) {idx : Nat} {x : Int32} (hlk : Cond.fieldLink own idx "DearVotes$Rounds" "ending" "I" ∈ hx_ws) (hdg : decode cc pc = .ok (.putfield idx, 3)) (kk : X (pc + 3) lv st (hx_u I 3 5 x) J) : X pc lv (.int x :: .ref (ad 3) :: st) I J := wl_put hZ (k := 3) (ci := 2) (j := 5) (ty := tyX2) (I' := hx_u I 3 5 x) (J' := J) rfl rfl (by decide) rfl inX2 tyX2_ok nmX2 (by decide) hlk rfl rfl rfl (Nat.le_of_ble_eq_true rfl) (fun a ha => hx_u_ne I 5 x ha) (fun _ _ => rfl) hdg kk
theorem gf_X2_6 (hZ : Rl l D ad cy own cc nL d X) {idx : Nat} (hlk : Cond.fieldLink own idx "DearVotes$Rounds" "ringLength" "I" ∈ hx_ws) (hdg : decode cc pc = .ok (.getfield idx, 3)) (kk : X (pc + 3) lv (.int (I 3 6) :: st) I J) : X pc lv (.ref (ad 3) :: st) I J := wl_get hZ (k := 3) (ci := 2) (j := 6) rfl (by decide) rfl inX2 (by decide) hlk rfl hdg kk
theorem pf_X2_6 (hZ : Rl l D ad cy own cc nL d X) {idx : Nat} {x : Int32} (hlk : Cond.fieldLink own idx "DearVotes$Rounds" "ringLength" "I" ∈ hx_ws) (hdg : decode cc pc = .ok (.putfield idx, 3)) (kk : X (pc + 3) lv st (hx_u I 3 6 x) J) : X pc lv (.int x :: .ref (ad 3) :: st) I J := wl_put hZ (k := 3) (ci := 2) (j := 6) (ty := tyX2) (I' := hx_u I 3 6 x) (J' := J) rfl rfl (by decide) rfl inX2 tyX2_ok nmX2 (by decide) hlk rfl rfl rfl (Nat.le_of_ble_eq_true rfl) (fun a ha => hx_u_ne I 6 x ha) (fun _ _ => rfl) hdg kk
theorem gf_X3_0 (hZ : Rl l D ad cy own cc nL d X) {idx : Nat} (hlk : Cond.fieldLink own idx "DearVotes$Search" "house" "LDearVotes$House;" ∈ hx_ws) (hdg : decode cc pc = .ok (.getfield idx, 3)) (kk : X (pc + 3) lv (.ref (ad 1) :: st) I J) : X pc lv (.ref (ad 2) :: st) I J := wl_get hZ (k := 2) (ci := 3) (j := 0) rfl (by decide) rfl inX3 (by decide) hlk rfl hdg kk
theorem gf_X3_1 (hZ : Rl l D ad cy own cc nL d X) {idx : Nat} (hlk : Cond.fieldLink own idx "DearVotes$Search" "choices" "[I" ∈ hx_ws) (hdg : decode cc pc = .ok (.getfield idx, 3)) (kk : X (pc + 3) lv (.ref (ad 10) :: st) I J) : X pc lv (.ref (ad 2) :: st) I J := wl_get hZ (k := 2) (ci := 3) (j := 1) rfl (by decide) rfl inX3 (by decide) hlk rfl hdg kk
theorem gf_X3_2 (hZ : Rl l D ad cy own cc nL d X) {idx : Nat} (hlk : Cond.fieldLink own idx "DearVotes$Search" "choiceVoices" "[[I" ∈ hx_ws) (hdg : decode cc pc = .ok (.getfield idx, 3)) (kk : X (pc + 3) lv (.ref (ad 11) :: st) I J) : X pc lv (.ref (ad 2) :: st) I J := wl_get hZ (k := 2) (ci := 3) (j := 2) rfl (by decide) rfl inX3 (by decide) hlk rfl hdg kk
theorem gf_X3_3 (hZ : Rl l D ad cy own cc nL d X) {idx : Nat} (hlk : Cond.fieldLink own idx "DearVotes$Search" "choiceGains" "[[I" ∈ hx_ws) (hdg : decode cc pc = .ok (.getfield idx, 3)) (kk : X (pc + 3) lv (.ref (ad 12) :: st) I J) : X pc lv (.ref (ad 2) :: st) I J := wl_get hZ (k := 2) (ci := 3) (j := 3) rfl (by decide) rfl inX3 (by decide) hlk rfl hdg kk
theorem gf_X3_4 (hZ : Rl l D ad cy own cc nL d X) {idx : Nat} (hlk : Cond.fieldLink own idx "DearVotes$Search" "gainAhead" "[I" ∈ hx_ws) (hdg : decode cc pc = .ok (.getfield idx, 3)) (kk : X (pc + 3) lv (.ref (ad 13) :: st) I J) : X pc lv (.ref (ad 2) :: st) I J := wl_get hZ (k := 2) (ci := 3) (j := 4) rfl (by decide) rfl inX3 (by decide) hlk rfl hdg kk
theorem gf_X3_5 (hZ : Rl l D ad cy own cc nL d X) {idx : Nat} (hlk : Cond.fieldLink own idx "DearVotes$Search" "tried" "[I" ∈ hx_ws) (hdg : decode cc pc = .ok (.getfield idx, 3)) (kk : X (pc + 3) lv (.ref (ad 14) :: st) I J) : X pc lv (.ref (ad 2) :: st) I J := wl_get hZ (k := 2) (ci := 3) (j := 5) rfl (by decide) rfl inX3 (by decide) hlk rfl hdg kk
theorem gf_X3_6 (hZ : Rl l D ad cy own cc nL d X) {idx : Nat} (hlk : Cond.fieldLink own idx "DearVotes$Search" "found" "[I" ∈ hx_ws) (hdg : decode cc pc = .ok (.getfield idx, 3)) (kk : X (pc + 3) lv (.ref (ad 15) :: st) I J) : X pc lv (.ref (ad 2) :: st) I J := wl_get hZ (k := 2) (ci := 3) (j := 6) rfl (by decide) rfl inX3 (by decide) hlk rfl hdg kk
theorem gf_X3_7 (hZ : Rl l D ad cy own cc nL d X) {idx : Nat} (hlk : Cond.fieldLink own idx "DearVotes$Search" "foundGain" "I" ∈ hx_ws) (hdg : decode cc pc = .ok (.getfield idx, 3)) (kk : X (pc + 3) lv (.int (I 2 7) :: st) I J) : X pc lv (.ref (ad 2) :: st) I J := wl_get hZ (k := 2) (ci := 3) (j := 7) rfl (by decide) rfl inX3 (by decide) hlk rfl hdg kk
theorem pf_X3_7 (hZ : Rl l D ad cy own cc nL d X) {idx : Nat} {x : Int32} (hlk : Cond.fieldLink own idx "DearVotes$Search" "foundGain" "I" ∈ hx_ws) (hdg : decode cc pc = .ok (.putfield idx, 3)) (kk : X (pc + 3) lv st (hx_u I 2 7 x) J) : X pc lv (.int x :: .ref (ad 2) :: st) I J := wl_put hZ (k := 2) (ci := 3) (j := 7) (ty := tyX3) (I' := hx_u I 2 7 x) (J' := J) rfl rfl (by decide) rfl inX3 tyX3_ok nmX3 (by decide) hlk rfl rfl rfl (Nat.le_of_ble_eq_true rfl) (fun a ha => hx_u_ne I 7 x ha) (fun _ _ => rfl) hdg kk
theorem gf_X3_8 (hZ : Rl l D ad cy own cc nL d X) {idx : Nat} (hlk : Cond.fieldLink own idx "DearVotes$Search" "foundCost" "I" ∈ hx_ws) (hdg : decode cc pc = .ok (.getfield idx, 3)) (kk : X (pc + 3) lv (.int (I 2 8) :: st) I J) : X pc lv (.ref (ad 2) :: st) I J := wl_get hZ (k := 2) (ci := 3) (j := 8) rfl (by decide) rfl inX3 (by decide) hlk rfl hdg kk
theorem pf_X3_8 (hZ : Rl l D ad cy own cc nL d X) {idx : Nat} {x : Int32} (hlk : Cond.fieldLink own idx "DearVotes$Search" "foundCost" "I" ∈ hx_ws) (hdg : decode cc pc = .ok (.putfield idx, 3)) (kk : X (pc + 3) lv st (hx_u I 2 8 x) J) : X pc lv (.int x :: .ref (ad 2) :: st) I J := wl_put hZ (k := 2) (ci := 3) (j := 8) (ty := tyX3) (I' := hx_u I 2 8 x) (J' := J) rfl rfl (by decide) rfl inX3 tyX3_ok nmX3 (by decide) hlk rfl rfl rfl (Nat.le_of_ble_eq_true rfl) (fun a ha => hx_u_ne I 8 x ha) (fun _ _ => rfl) hdg kk
theorem gf_X3_9 (hZ : Rl l D ad cy own cc nL d X) {idx : Nat} (hlk : Cond.fieldLink own idx "DearVotes$Search" "budget" "I" ∈ hx_ws) (hdg : decode cc pc = .ok (.getfield idx, 3)) (kk : X (pc + 3) lv (.int (I 2 9) :: st) I J) : X pc lv (.ref (ad 2) :: st) I J := wl_get hZ (k := 2) (ci := 3) (j := 9) rfl (by decide) rfl inX3 (by decide) hlk rfl hdg kk
theorem pf_X3_9 (hZ : Rl l D ad cy own cc nL d X) {idx : Nat} {x : Int32} (hlk : Cond.fieldLink own idx "DearVotes$Search" "budget" "I" ∈ hx_ws) (hdg : decode cc pc = .ok (.putfield idx, 3)) (kk : X (pc + 3) lv st (hx_u I 2 9 x) J) : X pc lv (.int x :: .ref (ad 2) :: st) I J := wl_put hZ (k := 2) (ci := 3) (j := 9) (ty := tyX3) (I' := hx_u I 2 9 x) (J' := J) rfl rfl (by decide) rfl inX3 tyX3_ok nmX3 (by decide) hlk rfl rfl rfl (Nat.le_of_ble_eq_true rfl) (fun a ha => hx_u_ne I 9 x ha) (fun _ _ => rfl) hdg kk
theorem gf_X4_0 (hZ : Rl l D ad cy own cc nL d X) {idx : Nat} (hlk : Cond.fieldLink own idx "DearVotes" "house" "LDearVotes$House;" ∈ hx_ws) (hdg : decode cc pc = .ok (.getfield idx, 3)) (kk : X (pc + 3) lv (.ref (ad 1) :: st) I J) : X pc lv (.ref (ad 0) :: st) I J := wl_get hZ (k := 0) (ci := 4) (j := 0) rfl (by decide) rfl inX4 (by decide) hlk rfl hdg kk
theorem gf_X4_1 (hZ : Rl l D ad cy own cc nL d X) {idx : Nat} (hlk : Cond.fieldLink own idx "DearVotes" "search" "LDearVotes$Search;" ∈ hx_ws) (hdg : decode cc pc = .ok (.getfield idx, 3)) (kk : X (pc + 3) lv (.ref (ad 2) :: st) I J) : X pc lv (.ref (ad 0) :: st) I J := wl_get hZ (k := 0) (ci := 4) (j := 1) rfl (by decide) rfl inX4 (by decide) hlk rfl hdg kk
theorem gf_X4_2 (hZ : Rl l D ad cy own cc nL d X) {idx : Nat} (hlk : Cond.fieldLink own idx "DearVotes" "rounds" "LDearVotes$Rounds;" ∈ hx_ws) (hdg : decode cc pc = .ok (.getfield idx, 3)) (kk : X (pc + 3) lv (.ref (ad 3) :: st) I J) : X pc lv (.ref (ad 0) :: st) I J := wl_get hZ (k := 0) (ci := 4) (j := 2) rfl (by decide) rfl inX4 (by decide) hlk rfl hdg kk
theorem gf_X4_3 (hZ : Rl l D ad cy own cc nL d X) {idx : Nat} (hlk : Cond.fieldLink own idx "DearVotes" "fund" "LDearVotes$Fund;" ∈ hx_ws) (hdg : decode cc pc = .ok (.getfield idx, 3)) (kk : X (pc + 3) lv (.ref (ad 4) :: st) I J) : X pc lv (.ref (ad 0) :: st) I J := wl_get hZ (k := 0) (ci := 4) (j := 3) rfl (by decide) rfl inX4 (by decide) hlk rfl hdg kk
theorem gf_X5_0 (hZ : Rl l D ad cy own cc nL d X) {idx : Nat} (hlk : Cond.fieldLink own idx "DearVotesModel" "people" "I" ∈ hx_ws) (hdg : decode cc pc = .ok (.getfield idx, 3)) (kk : X (pc + 3) lv (.int (I 5 0) :: st) I J) : X pc lv (.ref (ad 5) :: st) I J := wl_get hZ (k := 5) (ci := 5) (j := 0) rfl (by decide) rfl inX5 (by decide) hlk rfl hdg kk
theorem pf_X5_0 (hZ : Rl l D ad cy own cc nL d X) {idx : Nat} {x : Int32} (hlk : Cond.fieldLink own idx "DearVotesModel" "people" "I" ∈ hx_ws) (hdg : decode cc pc = .ok (.putfield idx, 3)) (kk : X (pc + 3) lv st (hx_u I 5 0 x) J) : X pc lv (.int x :: .ref (ad 5) :: st) I J := wl_put hZ (k := 5) (ci := 5) (j := 0) (ty := tyX5) (I' := hx_u I 5 0 x) (J' := J) rfl rfl (by decide) rfl inX5 tyX5_ok nmX5 (by decide) hlk rfl rfl rfl (Nat.le_of_ble_eq_true rfl) (fun a ha => hx_u_ne I 0 x ha) (fun _ _ => rfl) hdg kk
theorem gf_X5_1 (hZ : Rl l D ad cy own cc nL d X) {idx : Nat} (hlk : Cond.fieldLink own idx "DearVotesModel" "questions" "I" ∈ hx_ws) (hdg : decode cc pc = .ok (.getfield idx, 3)) (kk : X (pc + 3) lv (.int (I 5 1) :: st) I J) : X pc lv (.ref (ad 5) :: st) I J := wl_get hZ (k := 5) (ci := 5) (j := 1) rfl (by decide) rfl inX5 (by decide) hlk rfl hdg kk
theorem pf_X5_1 (hZ : Rl l D ad cy own cc nL d X) {idx : Nat} {x : Int32} (hlk : Cond.fieldLink own idx "DearVotesModel" "questions" "I" ∈ hx_ws) (hdg : decode cc pc = .ok (.putfield idx, 3)) (kk : X (pc + 3) lv st (hx_u I 5 1 x) J) : X pc lv (.int x :: .ref (ad 5) :: st) I J := wl_put hZ (k := 5) (ci := 5) (j := 1) (ty := tyX5) (I' := hx_u I 5 1 x) (J' := J) rfl rfl (by decide) rfl inX5 tyX5_ok nmX5 (by decide) hlk rfl rfl rfl (Nat.le_of_ble_eq_true rfl) (fun a ha => hx_u_ne I 1 x ha) (fun _ _ => rfl) hdg kk
theorem gf_X5_2 (hZ : Rl l D ad cy own cc nL d X) {idx : Nat} (hlk : Cond.fieldLink own idx "DearVotesModel" "projects" "I" ∈ hx_ws) (hdg : decode cc pc = .ok (.getfield idx, 3)) (kk : X (pc + 3) lv (.int (I 5 2) :: st) I J) : X pc lv (.ref (ad 5) :: st) I J := wl_get hZ (k := 5) (ci := 5) (j := 2) rfl (by decide) rfl inX5 (by decide) hlk rfl hdg kk
theorem pf_X5_2 (hZ : Rl l D ad cy own cc nL d X) {idx : Nat} {x : Int32} (hlk : Cond.fieldLink own idx "DearVotesModel" "projects" "I" ∈ hx_ws) (hdg : decode cc pc = .ok (.putfield idx, 3)) (kk : X (pc + 3) lv st (hx_u I 5 2 x) J) : X pc lv (.int x :: .ref (ad 5) :: st) I J := wl_put hZ (k := 5) (ci := 5) (j := 2) (ty := tyX5) (I' := hx_u I 5 2 x) (J' := J) rfl rfl (by decide) rfl inX5 tyX5_ok nmX5 (by decide) hlk rfl rfl rfl (Nat.le_of_ble_eq_true rfl) (fun a ha => hx_u_ne I 2 x ha) (fun _ _ => rfl) hdg kk
theorem gf_X5_3 (hZ : Rl l D ad cy own cc nL d X) {idx : Nat} (hlk : Cond.fieldLink own idx "DearVotesModel" "seed" "I" ∈ hx_ws) (hdg : decode cc pc = .ok (.getfield idx, 3)) (kk : X (pc + 3) lv (.int (I 5 3) :: st) I J) : X pc lv (.ref (ad 5) :: st) I J := wl_get hZ (k := 5) (ci := 5) (j := 3) rfl (by decide) rfl inX5 (by decide) hlk rfl hdg kk
theorem pf_X5_3 (hZ : Rl l D ad cy own cc nL d X) {idx : Nat} {x : Int32} (hlk : Cond.fieldLink own idx "DearVotesModel" "seed" "I" ∈ hx_ws) (hdg : decode cc pc = .ok (.putfield idx, 3)) (kk : X (pc + 3) lv st (hx_u I 5 3 x) J) : X pc lv (.int x :: .ref (ad 5) :: st) I J := wl_put hZ (k := 5) (ci := 5) (j := 3) (ty := tyX5) (I' := hx_u I 5 3 x) (J' := J) rfl rfl (by decide) rfl inX5 tyX5_ok nmX5 (by decide) hlk rfl rfl rfl (Nat.le_of_ble_eq_true rfl) (fun a ha => hx_u_ne I 3 x ha) (fun _ _ => rfl) hdg kk
theorem gf_X5_4 (hZ : Rl l D ad cy own cc nL d X) {idx : Nat} (hlk : Cond.fieldLink own idx "DearVotesModel" "budgets" "[I" ∈ hx_ws) (hdg : decode cc pc = .ok (.getfield idx, 3)) (kk : X (pc + 3) lv (.ref (ad 20) :: st) I J) : X pc lv (.ref (ad 5) :: st) I J := wl_get hZ (k := 5) (ci := 5) (j := 4) rfl (by decide) rfl inX5 (by decide) hlk rfl hdg kk
theorem gf_X5_5 (hZ : Rl l D ad cy own cc nL d X) {idx : Nat} (hlk : Cond.fieldLink own idx "DearVotesModel" "isHere" "[Z" ∈ hx_ws) (hdg : decode cc pc = .ok (.getfield idx, 3)) (kk : X (pc + 3) lv (.ref (ad 21) :: st) I J) : X pc lv (.ref (ad 5) :: st) I J := wl_get hZ (k := 5) (ci := 5) (j := 5) rfl (by decide) rfl inX5 (by decide) hlk rfl hdg kk
theorem gf_X5_6 (hZ : Rl l D ad cy own cc nL d X) {idx : Nat} (hlk : Cond.fieldLink own idx "DearVotesModel" "votes" "[I" ∈ hx_ws) (hdg : decode cc pc = .ok (.getfield idx, 3)) (kk : X (pc + 3) lv (.ref (ad 22) :: st) I J) : X pc lv (.ref (ad 5) :: st) I J := wl_get hZ (k := 5) (ci := 5) (j := 6) rfl (by decide) rfl inX5 (by decide) hlk rfl hdg kk
theorem gf_X5_7 (hZ : Rl l D ad cy own cc nL d X) {idx : Nat} (hlk : Cond.fieldLink own idx "DearVotesModel" "worths" "[I" ∈ hx_ws) (hdg : decode cc pc = .ok (.getfield idx, 3)) (kk : X (pc + 3) lv (.ref (ad 23) :: st) I J) : X pc lv (.ref (ad 5) :: st) I J := wl_get hZ (k := 5) (ci := 5) (j := 7) rfl (by decide) rfl inX5 (by decide) hlk rfl hdg kk
theorem gf_X5_8 (hZ : Rl l D ad cy own cc nL d X) {idx : Nat} (hlk : Cond.fieldLink own idx "DearVotesModel" "gifts" "[I" ∈ hx_ws) (hdg : decode cc pc = .ok (.getfield idx, 3)) (kk : X (pc + 3) lv (.ref (ad 24) :: st) I J) : X pc lv (.ref (ad 5) :: st) I J := wl_get hZ (k := 5) (ci := 5) (j := 8) rfl (by decide) rfl inX5 (by decide) hlk rfl hdg kk
theorem gf_X5_9 (hZ : Rl l D ad cy own cc nL d X) {idx : Nat} (hlk : Cond.fieldLink own idx "DearVotesModel" "bonds" "[I" ∈ hx_ws) (hdg : decode cc pc = .ok (.getfield idx, 3)) (kk : X (pc + 3) lv (.ref (ad 25) :: st) I J) : X pc lv (.ref (ad 5) :: st) I J := wl_get hZ (k := 5) (ci := 5) (j := 9) rfl (by decide) rfl inX5 (by decide) hlk rfl hdg kk
theorem gf_X5_10 (hZ : Rl l D ad cy own cc nL d X) {idx : Nat} (hlk : Cond.fieldLink own idx "DearVotesModel" "rounds" "I" ∈ hx_ws) (hdg : decode cc pc = .ok (.getfield idx, 3)) (kk : X (pc + 3) lv (.int (I 5 10) :: st) I J) : X pc lv (.ref (ad 5) :: st) I J := wl_get hZ (k := 5) (ci := 5) (j := 10) rfl (by decide) rfl inX5 (by decide) hlk rfl hdg kk
theorem pf_X5_10 (hZ : Rl l D ad cy own cc nL d X) {idx : Nat} {x : Int32} (hlk : Cond.fieldLink own idx "DearVotesModel" "rounds" "I" ∈ hx_ws) (hdg : decode cc pc = .ok (.putfield idx, 3)) (kk : X (pc + 3) lv st (hx_u I 5 10 x) J) : X pc lv (.int x :: .ref (ad 5) :: st) I J := wl_put hZ (k := 5) (ci := 5) (j := 10) (ty := tyX5) (I' := hx_u I 5 10 x) (J' := J) rfl rfl (by decide) rfl inX5 tyX5_ok nmX5 (by decide) hlk rfl rfl rfl (Nat.le_of_ble_eq_true rfl) (fun a ha => hx_u_ne I 10 x ha) (fun _ _ => rfl) hdg kk
theorem gf_X5_11 (hZ : Rl l D ad cy own cc nL d X) {idx : Nat} (hlk : Cond.fieldLink own idx "DearVotesModel" "changes" "I" ∈ hx_ws) (hdg : decode cc pc = .ok (.getfield idx, 3)) (kk : X (pc + 3) lv (.int (I 5 11) :: st) I J) : X pc lv (.ref (ad 5) :: st) I J := wl_get hZ (k := 5) (ci := 5) (j := 11) rfl (by decide) rfl inX5 (by decide) hlk rfl hdg kk
theorem pf_X5_11 (hZ : Rl l D ad cy own cc nL d X) {idx : Nat} {x : Int32} (hlk : Cond.fieldLink own idx "DearVotesModel" "changes" "I" ∈ hx_ws) (hdg : decode cc pc = .ok (.putfield idx, 3)) (kk : X (pc + 3) lv st (hx_u I 5 11 x) J) : X pc lv (.int x :: .ref (ad 5) :: st) I J := wl_put hZ (k := 5) (ci := 5) (j := 11) (ty := tyX5) (I' := hx_u I 5 11 x) (J' := J) rfl rfl (by decide) rfl inX5 tyX5_ok nmX5 (by decide) hlk rfl rfl rfl (Nat.le_of_ble_eq_true rfl) (fun a ha => hx_u_ne I 11 x ha) (fun _ _ => rfl) hdg kk
theorem gf_X5_12 (hZ : Rl l D ad cy own cc nL d X) {idx : Nat} (hlk : Cond.fieldLink own idx "DearVotesModel" "ended" "I" ∈ hx_ws) (hdg : decode cc pc = .ok (.getfield idx, 3)) (kk : X (pc + 3) lv (.int (I 5 12) :: st) I J) : X pc lv (.ref (ad 5) :: st) I J := wl_get hZ (k := 5) (ci := 5) (j := 12) rfl (by decide) rfl inX5 (by decide) hlk rfl hdg kk
theorem pf_X5_12 (hZ : Rl l D ad cy own cc nL d X) {idx : Nat} {x : Int32} (hlk : Cond.fieldLink own idx "DearVotesModel" "ended" "I" ∈ hx_ws) (hdg : decode cc pc = .ok (.putfield idx, 3)) (kk : X (pc + 3) lv st (hx_u I 5 12 x) J) : X pc lv (.int x :: .ref (ad 5) :: st) I J := wl_put hZ (k := 5) (ci := 5) (j := 12) (ty := tyX5) (I' := hx_u I 5 12 x) (J' := J) rfl rfl (by decide) rfl inX5 tyX5_ok nmX5 (by decide) hlk rfl rfl rfl (Nat.le_of_ble_eq_true rfl) (fun a ha => hx_u_ne I 12 x ha) (fun _ _ => rfl) hdg kk
theorem gf_X5_13 (hZ : Rl l D ad cy own cc nL d X) {idx : Nat} (hlk : Cond.fieldLink own idx "DearVotesModel" "ring" "I" ∈ hx_ws) (hdg : decode cc pc = .ok (.getfield idx, 3)) (kk : X (pc + 3) lv (.int (I 5 13) :: st) I J) : X pc lv (.ref (ad 5) :: st) I J := wl_get hZ (k := 5) (ci := 5) (j := 13) rfl (by decide) rfl inX5 (by decide) hlk rfl hdg kk
theorem pf_X5_13 (hZ : Rl l D ad cy own cc nL d X) {idx : Nat} {x : Int32} (hlk : Cond.fieldLink own idx "DearVotesModel" "ring" "I" ∈ hx_ws) (hdg : decode cc pc = .ok (.putfield idx, 3)) (kk : X (pc + 3) lv st (hx_u I 5 13 x) J) : X pc lv (.int x :: .ref (ad 5) :: st) I J := wl_put hZ (k := 5) (ci := 5) (j := 13) (ty := tyX5) (I' := hx_u I 5 13 x) (J' := J) rfl rfl (by decide) rfl inX5 tyX5_ok nmX5 (by decide) hlk rfl rfl rfl (Nat.le_of_ble_eq_true rfl) (fun a ha => hx_u_ne I 13 x ha) (fun _ _ => rfl) hdg kk
theorem gf_X5_14 (hZ : Rl l D ad cy own cc nL d X) {idx : Nat} (hlk : Cond.fieldLink own idx "DearVotesModel" "cheapest" "[I" ∈ hx_ws) (hdg : decode cc pc = .ok (.getfield idx, 3)) (kk : X (pc + 3) lv (.ref (ad 26) :: st) I J) : X pc lv (.ref (ad 5) :: st) I J := wl_get hZ (k := 5) (ci := 5) (j := 14) rfl (by decide) rfl inX5 (by decide) hlk rfl hdg kk
theorem gf_X5_15 (hZ : Rl l D ad cy own cc nL d X) {idx : Nat} (hlk : Cond.fieldLink own idx "DearVotesModel" "may" "[Z" ∈ hx_ws) (hdg : decode cc pc = .ok (.getfield idx, 3)) (kk : X (pc + 3) lv (.ref (ad 27) :: st) I J) : X pc lv (.ref (ad 5) :: st) I J := wl_get hZ (k := 5) (ci := 5) (j := 15) rfl (by decide) rfl inX5 (by decide) hlk rfl hdg kk
theorem gf_X5_16 (hZ : Rl l D ad cy own cc nL d X) {idx : Nat} (hlk : Cond.fieldLink own idx "DearVotesModel" "bestVoices" "[I" ∈ hx_ws) (hdg : decode cc pc = .ok (.getfield idx, 3)) (kk : X (pc + 3) lv (.ref (ad 28) :: st) I J) : X pc lv (.ref (ad 5) :: st) I J := wl_get hZ (k := 5) (ci := 5) (j := 16) rfl (by decide) rfl inX5 (by decide) hlk rfl hdg kk
theorem gf_X5_17 (hZ : Rl l D ad cy own cc nL d X) {idx : Nat} (hlk : Cond.fieldLink own idx "DearVotesModel" "tryVoices" "[I" ∈ hx_ws) (hdg : decode cc pc = .ok (.getfield idx, 3)) (kk : X (pc + 3) lv (.ref (ad 29) :: st) I J) : X pc lv (.ref (ad 5) :: st) I J := wl_get hZ (k := 5) (ci := 5) (j := 17) rfl (by decide) rfl inX5 (by decide) hlk rfl hdg kk
theorem gf_X5_18 (hZ : Rl l D ad cy own cc nL d X) {idx : Nat} (hlk : Cond.fieldLink own idx "DearVotesModel" "bestGain" "I" ∈ hx_ws) (hdg : decode cc pc = .ok (.getfield idx, 3)) (kk : X (pc + 3) lv (.int (I 5 18) :: st) I J) : X pc lv (.ref (ad 5) :: st) I J := wl_get hZ (k := 5) (ci := 5) (j := 18) rfl (by decide) rfl inX5 (by decide) hlk rfl hdg kk
theorem pf_X5_18 (hZ : Rl l D ad cy own cc nL d X) {idx : Nat} {x : Int32} (hlk : Cond.fieldLink own idx "DearVotesModel" "bestGain" "I" ∈ hx_ws) (hdg : decode cc pc = .ok (.putfield idx, 3)) (kk : X (pc + 3) lv st (hx_u I 5 18 x) J) : X pc lv (.int x :: .ref (ad 5) :: st) I J := wl_put hZ (k := 5) (ci := 5) (j := 18) (ty := tyX5) (I' := hx_u I 5 18 x) (J' := J) rfl rfl (by decide) rfl inX5 tyX5_ok nmX5 (by decide) hlk rfl rfl rfl (Nat.le_of_ble_eq_true rfl) (fun a ha => hx_u_ne I 18 x ha) (fun _ _ => rfl) hdg kk
theorem gf_X5_19 (hZ : Rl l D ad cy own cc nL d X) {idx : Nat} (hlk : Cond.fieldLink own idx "DearVotesModel" "bestCost" "I" ∈ hx_ws) (hdg : decode cc pc = .ok (.getfield idx, 3)) (kk : X (pc + 3) lv (.int (I 5 19) :: st) I J) : X pc lv (.ref (ad 5) :: st) I J := wl_get hZ (k := 5) (ci := 5) (j := 19) rfl (by decide) rfl inX5 (by decide) hlk rfl hdg kk
theorem pf_X5_19 (hZ : Rl l D ad cy own cc nL d X) {idx : Nat} {x : Int32} (hlk : Cond.fieldLink own idx "DearVotesModel" "bestCost" "I" ∈ hx_ws) (hdg : decode cc pc = .ok (.putfield idx, 3)) (kk : X (pc + 3) lv st (hx_u I 5 19 x) J) : X pc lv (.int x :: .ref (ad 5) :: st) I J := wl_put hZ (k := 5) (ci := 5) (j := 19) (ty := tyX5) (I' := hx_u I 5 19 x) (J' := J) rfl rfl (by decide) rfl inX5 tyX5_ok nmX5 (by decide) hlk rfl rfl rfl (Nat.le_of_ble_eq_true rfl) (fun a ha => hx_u_ne I 19 x ha) (fun _ _ => rfl) hdg kk
theorem gf_X5_20 (hZ : Rl l D ad cy own cc nL d X) {idx : Nat} (hlk : Cond.fieldLink own idx "DearVotesModel" "hasBest" "Z" ∈ hx_ws) (hdg : decode cc pc = .ok (.getfield idx, 3)) (kk : X (pc + 3) lv (.int (I 5 20) :: st) I J) : X pc lv (.ref (ad 5) :: st) I J := wl_get hZ (k := 5) (ci := 5) (j := 20) rfl (by decide) rfl inX5 (by decide) hlk rfl hdg kk
theorem pf_X5_20 (hZ : Rl l D ad cy own cc nL d X) {idx : Nat} {x : Int32} (hz : x = 0 ∨ x = 1) (hlk : Cond.fieldLink own idx "DearVotesModel" "hasBest" "Z" ∈ hx_ws) (hdg : decode cc pc = .ok (.putfield idx, 3)) (kk : X (pc + 3) lv st (hx_u I 5 20 x) J) : X pc lv (.int x :: .ref (ad 5) :: st) I J := wl_put hZ (k := 5) (ci := 5) (j := 20) (ty := tyX5) (I' := hx_u I 5 20 x) (J' := J) rfl rfl (by decide) rfl inX5 tyX5_ok nmX5 (by decide) hlk rfl (by rcases hz with rfl | rfl <;> rfl) (by rcases hz with rfl | rfl <;> rfl) (Nat.le_of_ble_eq_true rfl) (fun a ha => hx_u_ne I 20 x ha) (fun _ _ => rfl) hdg kk
theorem gf_X5_21 (hZ : Rl l D ad cy own cc nL d X) {idx : Nat} (hlk : Cond.fieldLink own idx "DearVotesModel" "past" "[I" ∈ hx_ws) (hdg : decode cc pc = .ok (.getfield idx, 3)) (kk : X (pc + 3) lv (.ref (ad 30) :: st) I J) : X pc lv (.ref (ad 5) :: st) I J := wl_get hZ (k := 5) (ci := 5) (j := 21) rfl (by decide) rfl inX5 (by decide) hlk rfl hdg kk
theorem gf_X5_22 (hZ : Rl l D ad cy own cc nL d X) {idx : Nat} (hlk : Cond.fieldLink own idx "DearVotesModel" "parts" "[J" ∈ hx_ws) (hdg : decode cc pc = .ok (.getfield idx, 3)) (kk : X (pc + 3) lv (.ref (ad 31) :: st) I J) : X pc lv (.ref (ad 5) :: st) I J := wl_get hZ (k := 5) (ci := 5) (j := 22) rfl (by decide) rfl inX5 (by decide) hlk rfl hdg kk
theorem gf_X5_23 (hZ : Rl l D ad cy own cc nL d X) {idx : Nat} (hlk : Cond.fieldLink own idx "DearVotesModel" "rests" "[J" ∈ hx_ws) (hdg : decode cc pc = .ok (.getfield idx, 3)) (kk : X (pc + 3) lv (.ref (ad 32) :: st) I J) : X pc lv (.ref (ad 5) :: st) I J := wl_get hZ (k := 5) (ci := 5) (j := 23) rfl (by decide) rfl inX5 (by decide) hlk rfl hdg kk
theorem gf_X5_24 (hZ : Rl l D ad cy own cc nL d X) {idx : Nat} (hlk : Cond.fieldLink own idx "DearVotesModel" "h" "J" ∈ hx_ws) (hdg : decode cc pc = .ok (.getfield idx, 3)) (kk : X (pc + 3) lv (.long (J 5 24) :: st) I J) : X pc lv (.ref (ad 5) :: st) I J := wl_get hZ (k := 5) (ci := 5) (j := 24) rfl (by decide) rfl inX5 (by decide) hlk rfl hdg kk
theorem pf_X5_24 (hZ : Rl l D ad cy own cc nL d X) {idx : Nat} {x : Int64} (hlk : Cond.fieldLink own idx "DearVotesModel" "h" "J" ∈ hx_ws) (hdg : decode cc pc = .ok (.putfield idx, 3)) (kk : X (pc + 3) lv st I (hx_uJ J 5 24 x)) : X pc lv (.long x :: .ref (ad 5) :: st) I J := wl_put hZ (k := 5) (ci := 5) (j := 24) (ty := tyX5) (I' := I) (J' := hx_uJ J 5 24 x) rfl rfl (by decide) rfl inX5 tyX5_ok nmX5 (by decide) hlk rfl rfl rfl (Nat.le_of_ble_eq_true rfl) (fun _ _ => rfl) (fun a ha => hx_uJ_ne J 24 x ha) hdg kk
theorem wl_eqi {x y : Int32} (e : x = y) (kk : X pc lv (.int y :: st) I J) : X pc lv (.int x :: st) I J := by rw [e]; exact kk
theorem wl_eql {x y : Int64} (e : x = y) (kk : X pc lv (.long y :: st) I J) : X pc lv (.long x :: st) I J := by rw [e]; exact kk
theorem wl_mem {I' : MI} {J' : MJ} (e1 : I = I') (e2 : J = J') (kk : X pc lv st I' J') : X pc lv st I J := by rw [e1, e2]; exact kk
theorem wl_cVi (hZ : Rl l D ad cy own cc nL d X) {y : MethodName} {bytes : ByteArray} {maxL n d' idx k : Nat} {ret : Option FieldType} {As rest stk : List Value} {q : vw_C} {r : Int32} {I1 : MI} {J1 : MJ} (hM : Ct l D ad cy y bytes maxL ret d' (.ref (ad k) :: As) I J (hx_is (some (.int r)) I1 J1)) (mv : hx_MV y bytes maxL ret n) (hlk : Cond.methodLink own idx y ∈ hx_ws) (h6 : k < 6) (hc : vwCl[(hx_ob ad I J k).1]? = some q) (hq : q.1 = y.cls) (hn : As.length = n) (hst : stk = As.reverse ++ .ref (ad k) :: rest) (hd : d' + 1 ≤ d) (hw8 : (rest.map fun v => v.category).sum ≤ 8) (hdg : decode cc pc = .ok (.invokevirtual idx, 3)) (kk : X (pc + 3) lv (.int r :: rest) I1 J1) : X pc lv stk I J := wl_callV hZ hM mv hlk h6 hc hq hn hst hd hw8 hdg (fun v I' J' h => by obtain ⟨rfl, rfl, rfl⟩ := h; exact kk)
theorem wl_cSi (hZ : Rl l D ad cy own cc nL d X) {y : MethodName} {bytes : ByteArray} {maxL n d' idx : Nat} {ret : Option FieldType} {As rest stk : List Value} {r : Int32} {I1 : MI} {J1 : MJ} (hM : Ct l D ad cy y bytes maxL ret d' As I J (hx_is (some (.int r)) I1 J1)) (mv : hx_MS y bytes maxL ret n) (hlk : Cond.methodLink own idx y ∈ hx_ws) (hn : As.length = n) (hst : stk = As.reverse ++ rest) (hd : d' + 1 ≤ d) (hw8 : (rest.map fun v => v.category).sum ≤ 8) (hdg : decode cc pc = .ok (.invokestatic idx, 3)) (kk : X (pc + 3) lv (.int r :: rest) I1 J1) : X pc lv stk I J := wl_callS hZ hM mv hlk hn hst hd hw8 hdg (fun v I' J' h => by obtain ⟨rfl, rfl, rfl⟩ := h; exact kk)
theorem wl_cVl (hZ : Rl l D ad cy own cc nL d X) {y : MethodName} {bytes : ByteArray} {maxL n d' idx k : Nat} {ret : Option FieldType} {As rest stk : List Value} {q : vw_C} {r : Int64} {I1 : MI} {J1 : MJ} (hM : Ct l D ad cy y bytes maxL ret d' (.ref (ad k) :: As) I J (hx_is (some (.long r)) I1 J1)) (mv : hx_MV y bytes maxL ret n) (hlk : Cond.methodLink own idx y ∈ hx_ws) (h6 : k < 6) (hc : vwCl[(hx_ob ad I J k).1]? = some q) (hq : q.1 = y.cls) (hn : As.length = n) (hst : stk = As.reverse ++ .ref (ad k) :: rest) (hd : d' + 1 ≤ d) (hw8 : (rest.map fun v => v.category).sum ≤ 8) (hdg : decode cc pc = .ok (.invokevirtual idx, 3)) (kk : X (pc + 3) lv (.long r :: rest) I1 J1) : X pc lv stk I J := wl_callV hZ hM mv hlk h6 hc hq hn hst hd hw8 hdg (fun v I' J' h => by obtain ⟨rfl, rfl, rfl⟩ := h; exact kk)
theorem wl_cSl (hZ : Rl l D ad cy own cc nL d X) {y : MethodName} {bytes : ByteArray} {maxL n d' idx : Nat} {ret : Option FieldType} {As rest stk : List Value} {r : Int64} {I1 : MI} {J1 : MJ} (hM : Ct l D ad cy y bytes maxL ret d' As I J (hx_is (some (.long r)) I1 J1)) (mv : hx_MS y bytes maxL ret n) (hlk : Cond.methodLink own idx y ∈ hx_ws) (hn : As.length = n) (hst : stk = As.reverse ++ rest) (hd : d' + 1 ≤ d) (hw8 : (rest.map fun v => v.category).sum ≤ 8) (hdg : decode cc pc = .ok (.invokestatic idx, 3)) (kk : X (pc + 3) lv (.long r :: rest) I1 J1) : X pc lv stk I J := wl_callS hZ hM mv hlk hn hst hd hw8 hdg (fun v I' J' h => by obtain ⟨rfl, rfl, rfl⟩ := h; exact kk)
theorem wl_cVv (hZ : Rl l D ad cy own cc nL d X) {y : MethodName} {bytes : ByteArray} {maxL n d' idx k : Nat} {ret : Option FieldType} {As rest stk : List Value} {q : vw_C} {I1 : MI} {J1 : MJ} (hM : Ct l D ad cy y bytes maxL ret d' (.ref (ad k) :: As) I J (hx_is none I1 J1)) (mv : hx_MV y bytes maxL ret n) (hlk : Cond.methodLink own idx y ∈ hx_ws) (h6 : k < 6) (hc : vwCl[(hx_ob ad I J k).1]? = some q) (hq : q.1 = y.cls) (hn : As.length = n) (hst : stk = As.reverse ++ .ref (ad k) :: rest) (hd : d' + 1 ≤ d) (hw8 : (rest.map fun v => v.category).sum ≤ 8) (hdg : decode cc pc = .ok (.invokevirtual idx, 3)) (kk : X (pc + 3) lv (rest) I1 J1) : X pc lv stk I J := wl_callV hZ hM mv hlk h6 hc hq hn hst hd hw8 hdg (fun v I' J' h => by obtain ⟨rfl, rfl, rfl⟩ := h; exact kk)
theorem wl_cSv (hZ : Rl l D ad cy own cc nL d X) {y : MethodName} {bytes : ByteArray} {maxL n d' idx : Nat} {ret : Option FieldType} {As rest stk : List Value} {I1 : MI} {J1 : MJ} (hM : Ct l D ad cy y bytes maxL ret d' As I J (hx_is none I1 J1)) (mv : hx_MS y bytes maxL ret n) (hlk : Cond.methodLink own idx y ∈ hx_ws) (hn : As.length = n) (hst : stk = As.reverse ++ rest) (hd : d' + 1 ≤ d) (hw8 : (rest.map fun v => v.category).sum ≤ 8) (hdg : decode cc pc = .ok (.invokestatic idx, 3)) (kk : X (pc + 3) lv (rest) I1 J1) : X pc lv stk I J := wl_callS hZ hM mv hlk hn hst hd hw8 hdg (fun v I' J' h => by obtain ⟨rfl, rfl, rfl⟩ := h; exact kk)
theorem wl_lif_eq (hZ : Rl l D ad cy own cc nL d X) {x y : Int64} {off : Int} {tgt : Nat} (hdg1 : decode cc pc = .ok (.lcmp, 1)) (hdg : decode cc (pc + 1) = .ok (.ifCond .eq off, 3)) (ht : ((pc + 1 : Nat) : Int) + off = (tgt : Int)) (kt : x = y → X tgt lv st I J) (kf : ¬ x = y → X (pc + 1 + 3) lv st I J) : X pc lv (.long y :: .long x :: st) I J := wl_lcmp hZ hdg1 (wl_if_eq hZ hdg ht (fun h => kt (by simpa only [lg_cmp_eq] using h)) (fun h => kf (by simpa only [lg_cmp_eq] using h)))
theorem wl_lif_ne (hZ : Rl l D ad cy own cc nL d X) {x y : Int64} {off : Int} {tgt : Nat} (hdg1 : decode cc pc = .ok (.lcmp, 1)) (hdg : decode cc (pc + 1) = .ok (.ifCond .ne off, 3)) (ht : ((pc + 1 : Nat) : Int) + off = (tgt : Int)) (kt : ¬ x = y → X tgt lv st I J) (kf : x = y → X (pc + 1 + 3) lv st I J) : X pc lv (.long y :: .long x :: st) I J := wl_lcmp hZ hdg1 (wl_if_ne hZ hdg ht (fun h => kt (by simpa only [lg_cmp_eq] using h)) (fun h => kf (by simpa only [lg_cmp_eq] using h)))
theorem wl_lif_lt (hZ : Rl l D ad cy own cc nL d X) {x y : Int64} {off : Int} {tgt : Nat} (hdg1 : decode cc pc = .ok (.lcmp, 1)) (hdg : decode cc (pc + 1) = .ok (.ifCond .lt off, 3)) (ht : ((pc + 1 : Nat) : Int) + off = (tgt : Int)) (kt : x < y → X tgt lv st I J) (kf : ¬ x < y → X (pc + 1 + 3) lv st I J) : X pc lv (.long y :: .long x :: st) I J := wl_lcmp hZ hdg1 (wl_if_lt hZ hdg ht (fun h => kt (by simpa only [lg_cmp_lt] using h)) (fun h => kf (by simpa only [lg_cmp_lt] using h)))
theorem wl_lif_ge (hZ : Rl l D ad cy own cc nL d X) {x y : Int64} {off : Int} {tgt : Nat} (hdg1 : decode cc pc = .ok (.lcmp, 1)) (hdg : decode cc (pc + 1) = .ok (.ifCond .ge off, 3)) (ht : ((pc + 1 : Nat) : Int) + off = (tgt : Int)) (kt : y ≤ x → X tgt lv st I J) (kf : ¬ y ≤ x → X (pc + 1 + 3) lv st I J) : X pc lv (.long y :: .long x :: st) I J := wl_lcmp hZ hdg1 (wl_if_ge hZ hdg ht (fun h => kt (by simpa only [lg_cmp_ge] using h)) (fun h => kf (by simpa only [lg_cmp_ge] using h)))
theorem wl_lif_gt (hZ : Rl l D ad cy own cc nL d X) {x y : Int64} {off : Int} {tgt : Nat} (hdg1 : decode cc pc = .ok (.lcmp, 1)) (hdg : decode cc (pc + 1) = .ok (.ifCond .gt off, 3)) (ht : ((pc + 1 : Nat) : Int) + off = (tgt : Int)) (kt : y < x → X tgt lv st I J) (kf : ¬ y < x → X (pc + 1 + 3) lv st I J) : X pc lv (.long y :: .long x :: st) I J := wl_lcmp hZ hdg1 (wl_if_gt hZ hdg ht (fun h => kt (by simpa only [lg_cmp_gt] using h)) (fun h => kf (by simpa only [lg_cmp_gt] using h)))
theorem wl_lif_le (hZ : Rl l D ad cy own cc nL d X) {x y : Int64} {off : Int} {tgt : Nat} (hdg1 : decode cc pc = .ok (.lcmp, 1)) (hdg : decode cc (pc + 1) = .ok (.ifCond .le off, 3)) (ht : ((pc + 1 : Nat) : Int) + off = (tgt : Int)) (kt : x ≤ y → X tgt lv st I J) (kf : ¬ x ≤ y → X (pc + 1 + 3) lv st I J) : X pc lv (.long y :: .long x :: st) I J := wl_lcmp hZ hdg1 (wl_if_le hZ hdg ht (fun h => kt (by simpa only [lg_cmp_le] using h)) (fun h => kf (by simpa only [lg_cmp_le] using h)))
end WLF
theorem mv_X0_hasProject : hx_MV yX0_hasProject cX0_hasProject 2 (some .boolean) 1 := ⟨tb_392, tb_393, tb_30, tb_394, ⟨by decide, by decide, by decide +kernel⟩, by decide⟩
theorem mv_X0_matchedLow : hx_MV yX0_matchedLow cX0_matchedLow 6 (some .long) 1 := ⟨tb_407, tb_408, tb_30, tb_409, ⟨by decide, by decide, by decide +kernel⟩, by decide⟩
theorem mv_X0_matchedUndamped : hx_MV yX0_matchedUndamped cX0_matchedUndamped 6 (some .long) 1 := ⟨tb_443, tb_444, tb_30, tb_445, ⟨by decide, by decide, by decide +kernel⟩, by decide⟩
theorem mv_X0_matchedHigh : hx_MV yX0_matchedHigh cX0_matchedHigh 6 (some .long) 1 := ⟨tb_422, tb_423, tb_30, tb_424, ⟨by decide, by decide, by decide +kernel⟩, by decide⟩
theorem mv_X0_fineProduct : hx_MV yX0_fineProduct cX0_fineProduct 4 (some .long) 3 := ⟨tb_412, tb_8, tb_30, tb_413, ⟨by decide, by decide, by decide +kernel⟩, by decide⟩
theorem mv_X0_root : hx_MS yX0_root cX0_root 6 (some .long) 1 := ⟨tb_416, tb_30, tb_417, ⟨by decide, by decide, by decide +kernel⟩, by decide⟩
theorem mv_X0_rootAbove : hx_MS yX0_rootAbove cX0_rootAbove 4 (some .long) 1 := ⟨tb_426, tb_30, tb_427, ⟨by decide, by decide, by decide +kernel⟩, by decide⟩
theorem mv_X0_shareOf : hx_MV yX0_shareOf cX0_shareOf 14 (some .long) 2 := ⟨tb_434, tb_435, tb_30, tb_436, ⟨by decide, by decide, by decide +kernel⟩, by decide⟩
theorem mv_X0_digestPerson : hx_MV yX0_digestPerson cX0_digestPerson 7 (some .long) 2 := ⟨tb_489, tb_490, tb_30, tb_491, ⟨by decide, by decide, by decide +kernel⟩, by decide⟩
theorem mv_X1_hasPerson : hx_MV yX1_hasPerson cX1_hasPerson 2 (some .boolean) 1 := ⟨tb_230, tb_231, tb_27, tb_232, ⟨by decide, by decide, by decide +kernel⟩, by decide⟩
theorem mv_X1_hasQuestion : hx_MV yX1_hasQuestion cX1_hasQuestion 2 (some .boolean) 1 := ⟨tb_234, tb_235, tb_27, tb_236, ⟨by decide, by decide, by decide +kernel⟩, by decide⟩
theorem mv_X1_addPerson : hx_MV yX1_addPerson cX1_addPerson 2 (some .int) 1 := ⟨tb_210, tb_211, tb_27, tb_212, ⟨by decide, by decide, by decide +kernel⟩, by decide⟩
theorem mv_X1_peoplePresent : hx_MV yX1_peoplePresent cX1_peoplePresent 3 (some .int) 0 := ⟨tb_475, tb_476, tb_27, tb_477, ⟨by decide, by decide, by decide +kernel⟩, by decide⟩
theorem mv_X1_costOf : hx_MV yX1_costOf cX1_costOf 4 (some .int) 1 := ⟨tb_238, tb_239, tb_27, tb_240, ⟨by decide, by decide, by decide +kernel⟩, by decide⟩
theorem mv_X1_countOf : hx_MV yX1_countOf cX1_countOf 4 (some .int) 1 := ⟨tb_262, tb_263, tb_27, tb_264, ⟨by decide, by decide, by decide +kernel⟩, by decide⟩
theorem mv_X1_countWithout : hx_MV yX1_countWithout cX1_countWithout 4 (some .int) 2 := ⟨tb_297, tb_298, tb_27, tb_299, ⟨by decide, by decide, by decide +kernel⟩, by decide⟩
theorem mv_X1_resultOf : hx_MV yX1_resultOf cX1_resultOf 5 (some .int) 2 := ⟨tb_270, tb_271, tb_27, tb_272, ⟨by decide, by decide, by decide +kernel⟩, by decide⟩
theorem mv_X1_gainOf : hx_MV yX1_gainOf cX1_gainOf 4 (some .int) 1 := ⟨tb_281, tb_282, tb_27, tb_283, ⟨by decide, by decide, by decide +kernel⟩, by decide⟩
theorem mv_X1_gainBy : hx_MS yX1_gainBy cX1_gainBy 2 (some .int) 2 := ⟨tb_286, tb_27, tb_287, ⟨by decide, by decide, by decide +kernel⟩, by decide⟩
theorem mv_X1_swingsOf : hx_MV yX1_swingsOf cX1_swingsOf 5 (some .int) 1 := ⟨tb_293, tb_294, tb_27, tb_295, ⟨by decide, by decide, by decide +kernel⟩, by decide⟩
theorem mv_X1_likenessOf : hx_MV yX1_likenessOf cX1_likenessOf 8 (some .int) 2 := ⟨tb_452, tb_453, tb_27, tb_454, ⟨by decide, by decide, by decide +kernel⟩, by decide⟩
theorem mv_X1_groupOf : hx_MV yX1_groupOf cX1_groupOf 7 (some .int) 2 := ⟨tb_462, tb_463, tb_27, tb_464, ⟨by decide, by decide, by decide +kernel⟩, by decide⟩
theorem mv_X1_alikeTo : hx_MV yX1_alikeTo cX1_alikeTo 5 (some .int) 2 := ⟨tb_466, tb_467, tb_27, tb_468, ⟨by decide, by decide, by decide +kernel⟩, by decide⟩
theorem mv_X1_voicesInOne : hx_MV yX1_voicesInOne cX1_voicesInOne 5 (some .long) 1 := ⟨tb_359, tb_360, tb_27, tb_361, ⟨by decide, by decide, by decide +kernel⟩, by decide⟩
theorem mv_X1_digestPerson : hx_MV yX1_digestPerson cX1_digestPerson 7 (some .long) 2 := ⟨tb_484, tb_485, tb_27, tb_486, ⟨by decide, by decide, by decide +kernel⟩, by decide⟩
theorem mv_X2_playAtMost : hx_MV yX2_playAtMost cX2_playAtMost 4 (some .int) 1 := ⟨tb_351, tb_352, tb_29, tb_353, ⟨by decide, by decide, by decide +kernel⟩, by decide⟩
theorem mv_X2_doRound : hx_MV yX2_doRound cX2_doRound 3 (some .int) 0 := ⟨tb_366, tb_5, tb_29, tb_367, ⟨by decide, by decide, by decide +kernel⟩, by decide⟩
theorem mv_X2_noteVoices : hx_MV yX2_noteVoices cX2_noteVoices 3 none 1 := ⟨tb_356, tb_4, tb_29, tb_357, ⟨by decide, by decide, by decide +kernel⟩, by decide⟩
theorem mv_X2_judge : hx_MV yX2_judge cX2_judge 4 none 2 := ⟨tb_373, tb_6, tb_29, tb_374, ⟨by decide, by decide, by decide +kernel⟩, by decide⟩
theorem mv_X2_isSameTrail : hx_MV yX2_isSameTrail cX2_isSameTrail 4 (some .boolean) 2 := ⟨tb_377, tb_7, tb_29, tb_378, ⟨by decide, by decide, by decide +kernel⟩, by decide⟩
theorem mv_X3_findFor : hx_MV yX3_findFor cX3_findFor 3 none 1 := ⟨tb_306, tb_307, tb_28, tb_308, ⟨by decide, by decide, by decide +kernel⟩, by decide⟩
theorem mv_X3_giveTo : hx_MV yX3_giveTo cX3_giveTo 2 none 1 := ⟨tb_343, tb_344, tb_28, tb_345, ⟨by decide, by decide, by decide +kernel⟩, by decide⟩
theorem mv_X3_listChoices : hx_MV yX3_listChoices cX3_listChoices 6 none 3 := ⟨tb_313, tb_0, tb_28, tb_314, ⟨by decide, by decide, by decide +kernel⟩, by decide⟩
theorem mv_X3_addChoice : hx_MV yX3_addChoice cX3_addChoice 5 none 3 := ⟨tb_318, tb_1, tb_28, tb_319, ⟨by decide, by decide, by decide +kernel⟩, by decide⟩
theorem mv_X3_tryFrom : hx_MS yX3_tryFrom cX3_tryFrom 7 none 4 := ⟨tb_321, tb_28, tb_322, ⟨by decide, by decide, by decide +kernel⟩, by decide⟩
theorem mv_X3_keepIfBetter : hx_MV yX3_keepIfBetter cX3_keepIfBetter 3 none 2 := ⟨tb_325, tb_2, tb_28, tb_326, ⟨by decide, by decide, by decide +kernel⟩, by decide⟩
theorem mv_X3_triedIsLess : hx_MV yX3_triedIsLess cX3_triedIsLess 2 (some .boolean) 0 := ⟨tb_329, tb_3, tb_28, tb_330, ⟨by decide, by decide, by decide +kernel⟩, by decide⟩
theorem mv_X4_person : hx_MV yX4_person cX4_person 2 (some .int) 1 := ⟨tb_203, tb_204, tb_26, tb_205, ⟨by decide, by decide, by decide +kernel⟩, by decide⟩
theorem mv_X4_question : hx_MV yX4_question cX4_question 1 (some .int) 0 := ⟨tb_214, tb_215, tb_26, tb_216, ⟨by decide, by decide, by decide +kernel⟩, by decide⟩
theorem mv_X4_project : hx_MV yX4_project cX4_project 1 (some .int) 0 := ⟨tb_218, tb_219, tb_26, tb_220, ⟨by decide, by decide, by decide +kernel⟩, by decide⟩
theorem mv_X4_seed : hx_MV yX4_seed cX4_seed 3 (some .int) 1 := ⟨tb_222, tb_223, tb_26, tb_224, ⟨by decide, by decide, by decide +kernel⟩, by decide⟩
theorem mv_X4_vote : hx_MV yX4_vote cX4_vote 6 (some .int) 3 := ⟨tb_226, tb_227, tb_26, tb_228, ⟨by decide, by decide, by decide +kernel⟩, by decide⟩
theorem mv_X4_worth : hx_MV yX4_worth cX4_worth 5 (some .int) 3 := ⟨tb_242, tb_243, tb_26, tb_244, ⟨by decide, by decide, by decide +kernel⟩, by decide⟩
theorem mv_X4_here : hx_MV yX4_here cX4_here 4 (some .int) 2 := ⟨tb_246, tb_247, tb_26, tb_248, ⟨by decide, by decide, by decide +kernel⟩, by decide⟩
theorem mv_X4_voices : hx_MV yX4_voices cX4_voices 3 (some .int) 2 := ⟨tb_250, tb_251, tb_26, tb_252, ⟨by decide, by decide, by decide +kernel⟩, by decide⟩
theorem mv_X4_cost : hx_MV yX4_cost cX4_cost 2 (some .int) 1 := ⟨tb_254, tb_255, tb_26, tb_256, ⟨by decide, by decide, by decide +kernel⟩, by decide⟩
theorem mv_X4_total : hx_MV yX4_total cX4_total 2 (some .int) 1 := ⟨tb_258, tb_259, tb_26, tb_260, ⟨by decide, by decide, by decide +kernel⟩, by decide⟩
theorem mv_X4_result : hx_MV yX4_result cX4_result 2 (some .int) 1 := ⟨tb_266, tb_267, tb_26, tb_268, ⟨by decide, by decide, by decide +kernel⟩, by decide⟩
theorem mv_X4_gain : hx_MV yX4_gain cX4_gain 2 (some .int) 1 := ⟨tb_276, tb_277, tb_26, tb_278, ⟨by decide, by decide, by decide +kernel⟩, by decide⟩
theorem mv_X4_swings : hx_MV yX4_swings cX4_swings 2 (some .int) 1 := ⟨tb_289, tb_290, tb_26, tb_291, ⟨by decide, by decide, by decide +kernel⟩, by decide⟩
theorem mv_X4_best : hx_MV yX4_best cX4_best 2 (some .int) 1 := ⟨tb_302, tb_303, tb_26, tb_304, ⟨by decide, by decide, by decide +kernel⟩, by decide⟩
theorem mv_X4_answer : hx_MV yX4_answer cX4_answer 3 (some .int) 2 := ⟨tb_335, tb_336, tb_26, tb_337, ⟨by decide, by decide, by decide +kernel⟩, by decide⟩
theorem mv_X4_take : hx_MV yX4_take cX4_take 2 (some .int) 1 := ⟨tb_339, tb_340, tb_26, tb_341, ⟨by decide, by decide, by decide +kernel⟩, by decide⟩
theorem mv_X4_play : hx_MV yX4_play cX4_play 2 (some .int) 1 := ⟨tb_347, tb_348, tb_26, tb_349, ⟨by decide, by decide, by decide +kernel⟩, by decide⟩
theorem mv_X4_ended : hx_MV yX4_ended cX4_ended 1 (some .int) 0 := ⟨tb_380, tb_381, tb_26, tb_382, ⟨by decide, by decide, by decide +kernel⟩, by decide⟩
theorem mv_X4_ring : hx_MV yX4_ring cX4_ring 1 (some .int) 0 := ⟨tb_384, tb_385, tb_26, tb_386, ⟨by decide, by decide, by decide +kernel⟩, by decide⟩
theorem mv_X4_gift : hx_MV yX4_gift cX4_gift 5 (some .int) 3 := ⟨tb_388, tb_389, tb_26, tb_390, ⟨by decide, by decide, by decide +kernel⟩, by decide⟩
theorem mv_X4_bond : hx_MV yX4_bond cX4_bond 5 (some .int) 3 := ⟨tb_397, tb_398, tb_26, tb_399, ⟨by decide, by decide, by decide +kernel⟩, by decide⟩
theorem mv_X4_matched : hx_MV yX4_matched cX4_matched 3 (some .long) 2 := ⟨tb_401, tb_402, tb_26, tb_403, ⟨by decide, by decide, by decide +kernel⟩, by decide⟩
theorem mv_X4_share : hx_MV yX4_share cX4_share 4 (some .long) 2 := ⟨tb_429, tb_430, tb_26, tb_431, ⟨by decide, by decide, by decide +kernel⟩, by decide⟩
theorem mv_X4_damped : hx_MV yX4_damped cX4_damped 2 (some .long) 1 := ⟨tb_439, tb_440, tb_26, tb_441, ⟨by decide, by decide, by decide +kernel⟩, by decide⟩
theorem mv_X4_likeness : hx_MV yX4_likeness cX4_likeness 3 (some .int) 2 := ⟨tb_448, tb_449, tb_26, tb_450, ⟨by decide, by decide, by decide +kernel⟩, by decide⟩
theorem mv_X4_group : hx_MV yX4_group cX4_group 3 (some .int) 2 := ⟨tb_458, tb_459, tb_26, tb_460, ⟨by decide, by decide, by decide +kernel⟩, by decide⟩
theorem mv_X4_count : hx_MV yX4_count cX4_count 2 (some .int) 1 := ⟨tb_471, tb_472, tb_26, tb_473, ⟨by decide, by decide, by decide +kernel⟩, by decide⟩
theorem mv_X4_digest : hx_MV yX4_digest cX4_digest 4 (some .long) 0 := ⟨tb_479, tb_480, tb_26, tb_481, ⟨by decide, by decide, by decide +kernel⟩, by decide⟩
theorem mv_X4_isWithin : hx_MS yX4_isWithin cX4_isWithin 3 (some .boolean) 3 := ⟨tb_207, tb_26, tb_208, ⟨by decide, by decide, by decide +kernel⟩, by decide⟩
theorem mv_X5_in : hx_MS yX5_in cX5_in 3 (some .boolean) 3 := ⟨tb_581, tb_31, tb_582, ⟨by decide, by decide, by decide +kernel⟩, by decide⟩
theorem mv_X5_isPerson : hx_MV yX5_isPerson cX5_isPerson 2 (some .boolean) 1 := ⟨tb_601, tb_9, tb_31, tb_602, ⟨by decide, by decide, by decide +kernel⟩, by decide⟩
theorem mv_X5_isQuestion : hx_MV yX5_isQuestion cX5_isQuestion 2 (some .boolean) 1 := ⟨tb_605, tb_10, tb_31, tb_606, ⟨by decide, by decide, by decide +kernel⟩, by decide⟩
theorem mv_X5_isProject : hx_MV yX5_isProject cX5_isProject 2 (some .boolean) 1 := ⟨tb_715, tb_21, tb_31, tb_716, ⟨by decide, by decide, by decide +kernel⟩, by decide⟩
theorem mv_X5_person : hx_MV yX5_person cX5_person 2 (some .int) 1 := ⟨tb_577, tb_578, tb_31, tb_579, ⟨by decide, by decide, by decide +kernel⟩, by decide⟩
theorem mv_X5_question : hx_MV yX5_question cX5_question 1 (some .int) 0 := ⟨tb_584, tb_585, tb_31, tb_586, ⟨by decide, by decide, by decide +kernel⟩, by decide⟩
theorem mv_X5_project : hx_MV yX5_project cX5_project 1 (some .int) 0 := ⟨tb_588, tb_589, tb_31, tb_590, ⟨by decide, by decide, by decide +kernel⟩, by decide⟩
theorem mv_X5_seed : hx_MV yX5_seed cX5_seed 3 (some .int) 1 := ⟨tb_592, tb_593, tb_31, tb_594, ⟨by decide, by decide, by decide +kernel⟩, by decide⟩
theorem mv_X5_costOf : hx_MV yX5_costOf cX5_costOf 4 (some .int) 1 := ⟨tb_609, tb_11, tb_31, tb_610, ⟨by decide, by decide, by decide +kernel⟩, by decide⟩
theorem mv_X5_vote : hx_MV yX5_vote cX5_vote 6 (some .int) 3 := ⟨tb_596, tb_597, tb_31, tb_598, ⟨by decide, by decide, by decide +kernel⟩, by decide⟩
theorem mv_X5_worth : hx_MV yX5_worth cX5_worth 5 (some .int) 3 := ⟨tb_612, tb_613, tb_31, tb_614, ⟨by decide, by decide, by decide +kernel⟩, by decide⟩
theorem mv_X5_here : hx_MV yX5_here cX5_here 4 (some .int) 2 := ⟨tb_616, tb_617, tb_31, tb_618, ⟨by decide, by decide, by decide +kernel⟩, by decide⟩
theorem mv_X5_voices : hx_MV yX5_voices cX5_voices 3 (some .int) 2 := ⟨tb_620, tb_621, tb_31, tb_622, ⟨by decide, by decide, by decide +kernel⟩, by decide⟩
theorem mv_X5_cost : hx_MV yX5_cost cX5_cost 2 (some .int) 1 := ⟨tb_624, tb_625, tb_31, tb_626, ⟨by decide, by decide, by decide +kernel⟩, by decide⟩
theorem mv_X5_others : hx_MV yX5_others cX5_others 5 (some .int) 2 := ⟨tb_633, tb_12, tb_31, tb_634, ⟨by decide, by decide, by decide +kernel⟩, by decide⟩
theorem mv_X5_total : hx_MV yX5_total cX5_total 2 (some .int) 1 := ⟨tb_628, tb_629, tb_31, tb_630, ⟨by decide, by decide, by decide +kernel⟩, by decide⟩
theorem mv_X5_resultOf : hx_MV yX5_resultOf cX5_resultOf 5 (some .int) 2 := ⟨tb_641, tb_13, tb_31, tb_642, ⟨by decide, by decide, by decide +kernel⟩, by decide⟩
theorem mv_X5_result : hx_MV yX5_result cX5_result 2 (some .int) 1 := ⟨tb_636, tb_637, tb_31, tb_638, ⟨by decide, by decide, by decide +kernel⟩, by decide⟩
theorem mv_X5_gainBy : hx_MS yX5_gainBy cX5_gainBy 2 (some .int) 2 := ⟨tb_654, tb_31, tb_655, ⟨by decide, by decide, by decide +kernel⟩, by decide⟩
theorem mv_X5_gainOf : hx_MV yX5_gainOf cX5_gainOf 4 (some .int) 1 := ⟨tb_651, tb_14, tb_31, tb_652, ⟨by decide, by decide, by decide +kernel⟩, by decide⟩
theorem mv_X5_gain : hx_MV yX5_gain cX5_gain 2 (some .int) 1 := ⟨tb_646, tb_647, tb_31, tb_648, ⟨by decide, by decide, by decide +kernel⟩, by decide⟩
theorem mv_X5_swings : hx_MV yX5_swings cX5_swings 5 (some .int) 1 := ⟨tb_658, tb_659, tb_31, tb_660, ⟨by decide, by decide, by decide +kernel⟩, by decide⟩
theorem mv_X5_end : hx_MV yX5_end cX5_end 3 none 2 := ⟨tb_671, tb_16, tb_31, tb_672, ⟨by decide, by decide, by decide +kernel⟩, by decide⟩
theorem mv_X5_isBetter : hx_MV yX5_isBetter cX5_isBetter 4 (some .boolean) 2 := ⟨tb_675, tb_17, tb_31, tb_676, ⟨by decide, by decide, by decide +kernel⟩, by decide⟩
theorem mv_X5_find : hx_MV yX5_find cX5_find 11 none 1 := ⟨tb_667, tb_15, tb_31, tb_668, ⟨by decide, by decide, by decide +kernel⟩, by decide⟩
theorem mv_X5_best : hx_MV yX5_best cX5_best 2 (some .int) 1 := ⟨tb_662, tb_663, tb_31, tb_664, ⟨by decide, by decide, by decide +kernel⟩, by decide⟩
theorem mv_X5_answer : hx_MV yX5_answer cX5_answer 3 (some .int) 2 := ⟨tb_678, tb_679, tb_31, tb_680, ⟨by decide, by decide, by decide +kernel⟩, by decide⟩
theorem mv_X5_adopt : hx_MV yX5_adopt cX5_adopt 3 none 1 := ⟨tb_687, tb_18, tb_31, tb_688, ⟨by decide, by decide, by decide +kernel⟩, by decide⟩
theorem mv_X5_take : hx_MV yX5_take cX5_take 2 (some .int) 1 := ⟨tb_682, tb_683, tb_31, tb_684, ⟨by decide, by decide, by decide +kernel⟩, by decide⟩
theorem mv_X5_isAsBehind : hx_MV yX5_isAsBehind cX5_isAsBehind 4 (some .boolean) 1 := ⟨tb_699, tb_20, tb_31, tb_700, ⟨by decide, by decide, by decide +kernel⟩, by decide⟩
theorem mv_X5_keep : hx_MV yX5_keep cX5_keep 3 none 1 := ⟨tb_695, tb_19, tb_31, tb_696, ⟨by decide, by decide, by decide +kernel⟩, by decide⟩
theorem mv_X5_play : hx_MV yX5_play cX5_play 5 (some .int) 1 := ⟨tb_690, tb_691, tb_31, tb_692, ⟨by decide, by decide, by decide +kernel⟩, by decide⟩
theorem mv_X5_ended : hx_MV yX5_ended cX5_ended 1 (some .int) 0 := ⟨tb_702, tb_703, tb_31, tb_704, ⟨by decide, by decide, by decide +kernel⟩, by decide⟩
theorem mv_X5_ring : hx_MV yX5_ring cX5_ring 1 (some .int) 0 := ⟨tb_706, tb_707, tb_31, tb_708, ⟨by decide, by decide, by decide +kernel⟩, by decide⟩
theorem mv_X5_gift : hx_MV yX5_gift cX5_gift 5 (some .int) 3 := ⟨tb_710, tb_711, tb_31, tb_712, ⟨by decide, by decide, by decide +kernel⟩, by decide⟩
theorem mv_X5_bond : hx_MV yX5_bond cX5_bond 5 (some .int) 3 := ⟨tb_719, tb_720, tb_31, tb_721, ⟨by decide, by decide, by decide +kernel⟩, by decide⟩
theorem mv_X5_root : hx_MS yX5_root cX5_root 7 (some .long) 1 := ⟨tb_734, tb_31, tb_735, ⟨by decide, by decide, by decide +kernel⟩, by decide⟩
theorem mv_X5_matchedOf : hx_MV yX5_matchedOf cX5_matchedOf 14 (some .long) 3 := ⟨tb_729, tb_22, tb_31, tb_730, ⟨by decide, by decide, by decide +kernel⟩, by decide⟩
theorem mv_X5_matched : hx_MV yX5_matched cX5_matched 3 (some .long) 2 := ⟨tb_723, tb_724, tb_31, tb_725, ⟨by decide, by decide, by decide +kernel⟩, by decide⟩
theorem mv_X5_share : hx_MV yX5_share cX5_share 10 (some .long) 2 := ⟨tb_741, tb_742, tb_31, tb_743, ⟨by decide, by decide, by decide +kernel⟩, by decide⟩
theorem mv_X5_damped : hx_MV yX5_damped cX5_damped 2 (some .long) 1 := ⟨tb_747, tb_748, tb_31, tb_749, ⟨by decide, by decide, by decide +kernel⟩, by decide⟩
theorem mv_X5_likenessOf : hx_MV yX5_likenessOf cX5_likenessOf 8 (some .int) 2 := ⟨tb_756, tb_23, tb_31, tb_757, ⟨by decide, by decide, by decide +kernel⟩, by decide⟩
theorem mv_X5_likeness : hx_MV yX5_likeness cX5_likeness 3 (some .int) 2 := ⟨tb_751, tb_752, tb_31, tb_753, ⟨by decide, by decide, by decide +kernel⟩, by decide⟩
theorem mv_X5_group : hx_MV yX5_group cX5_group 7 (some .int) 2 := ⟨tb_759, tb_760, tb_31, tb_761, ⟨by decide, by decide, by decide +kernel⟩, by decide⟩
theorem mv_X5_count : hx_MV yX5_count cX5_count 4 (some .int) 1 := ⟨tb_763, tb_764, tb_31, tb_765, ⟨by decide, by decide, by decide +kernel⟩, by decide⟩
theorem mv_X5_mix : hx_MV yX5_mix cX5_mix 3 none 1 := ⟨tb_773, tb_24, tb_31, tb_774, ⟨by decide, by decide, by decide +kernel⟩, by decide⟩
theorem mv_X5_digest : hx_MV yX5_digest cX5_digest 3 (some .long) 0 := ⟨tb_767, tb_768, tb_31, tb_769, ⟨by decide, by decide, by decide +kernel⟩, by decide⟩
theorem kd_33 {p : Nat} (h : p < 12) : hx_kd (33 + p) = (1, 6, 0) := by
  have e : ∀ j, j < 12 → hx_kd (33 + j) = (1, 6, 0) := by decide +kernel
  exact e p h
theorem kd_45 {p : Nat} (h : p < 12) : hx_kd (45 + p) = (1, 6, 0) := by
  have e : ∀ j, j < 12 → hx_kd (45 + j) = (1, 6, 0) := by decide +kernel
  exact e p h
theorem kd_57 {p : Nat} (h : p < 6) : hx_kd (57 + p) = (1, 3, 0) := by
  have e : ∀ j, j < 6 → hx_kd (57 + j) = (1, 3, 0) := by decide +kernel
  exact e p h
theorem kd_63 {p : Nat} (h : p < 6) : hx_kd (63 + p) = (1, 3, 0) := by
  have e : ∀ j, j < 6 → hx_kd (63 + j) = (1, 3, 0) := by decide +kernel
  exact e p h
theorem kd_69 {p : Nat} (h : p < 31) : hx_kd (69 + p) = (3, 12, 0) := by
  have e : ∀ j, j < 31 → hx_kd (69 + j) = (3, 12, 0) := by decide +kernel
  exact e p h
theorem kd_100 {p : Nat} (h : p < 12) : hx_kd (100 + p) = (1, 6, 0) := by
  have e : ∀ j, j < 12 → hx_kd (100 + j) = (1, 6, 0) := by decide +kernel
  exact e p h
theorem kd_112 {p : Nat} (h : p < 12) : hx_kd (112 + p) = (1, 12, 0) := by
  have e : ∀ j, j < 12 → hx_kd (112 + j) = (1, 12, 0) := by decide +kernel
  exact e p h
theorem kc_6 : hx_kd 6 = (1, 12, 0) := by decide +kernel
theorem kc_7 : hx_kd 7 = (2, 12, 0) := by decide +kernel
theorem kc_8 : hx_kd 8 = (4, 12, 33) := by decide +kernel
theorem kc_9 : hx_kd 9 = (4, 12, 45) := by decide +kernel
theorem kc_10 : hx_kd 10 = (1, 6, 0) := by decide +kernel
theorem kc_11 : hx_kd 11 = (4, 6, 57) := by decide +kernel
theorem kc_12 : hx_kd 12 = (4, 6, 63) := by decide +kernel
theorem kc_13 : hx_kd 13 = (1, 7, 0) := by decide +kernel
theorem kc_14 : hx_kd 14 = (1, 6, 0) := by decide +kernel
theorem kc_15 : hx_kd 15 = (1, 6, 0) := by decide +kernel
theorem kc_16 : hx_kd 16 = (5, 31, 69) := by decide +kernel
theorem kc_17 : hx_kd 17 = (4, 12, 100) := by decide +kernel
theorem kc_18 : hx_kd 18 = (4, 12, 112) := by decide +kernel
theorem kc_19 : hx_kd 19 = (3, 6, 0) := by decide +kernel
theorem kc_20 : hx_kd 20 = (1, 12, 0) := by decide +kernel
theorem kc_21 : hx_kd 21 = (2, 12, 0) := by decide +kernel
theorem kc_22 : hx_kd 22 = (1, 72, 0) := by decide +kernel
theorem kc_23 : hx_kd 23 = (1, 72, 0) := by decide +kernel
theorem kc_24 : hx_kd 24 = (1, 72, 0) := by decide +kernel
theorem kc_25 : hx_kd 25 = (1, 144, 0) := by decide +kernel
theorem kc_26 : hx_kd 26 = (1, 18, 0) := by decide +kernel
theorem kc_27 : hx_kd 27 = (2, 18, 0) := by decide +kernel
theorem kc_28 : hx_kd 28 = (1, 6, 0) := by decide +kernel
theorem kc_29 : hx_kd 29 = (1, 6, 0) := by decide +kernel
theorem kc_30 : hx_kd 30 = (1, 2232, 0) := by decide +kernel
theorem kc_31 : hx_kd 31 = (3, 6, 0) := by decide +kernel
theorem kc_32 : hx_kd 32 = (3, 6, 0) := by decide +kernel
theorem hx_ix3 (a b : Nat) : (3 : Int32) * nI a + nI b = nI (3 * a + b) := by
  rw [show (3 : Int32) = nI 3 from by decide, pk_mul, nI_add]
theorem hx_ix6 (a b : Nat) : (6 : Int32) * nI a + nI b = nI (6 * a + b) := by
  rw [show (6 : Int32) = nI 6 from by decide, pk_mul, nI_add]
theorem hx_ix12 (a b : Nat) : (12 : Int32) * nI a + nI b = nI (12 * a + b) := by
  rw [show (12 : Int32) = nI 12 from by decide, pk_mul, nI_add]
theorem hx_ix72 (a b : Nat) : (72 : Int32) * nI a + nI b = nI (72 * a + b) := by
  rw [show (72 : Int32) = nI 72 from by decide, pk_mul, nI_add]
end
section
/-! what the methods say, in plain words: sums and choices over functions of person and question -/
def sI (f : Nat → Int32) : Nat → Int32
  | 0 => 0
  | n + 1 => sI f n + f n
def sJ (f : Nat → Int64) : Nat → Int64
  | 0 => 0
  | n + 1 => sJ f n + f n
def sO (f : Nat → Int32) : Nat → Int32
  | 0 => 0
  | n + 1 => sO f n ||| f n
theorem sI_congr {f g : Nat → Int32} : ∀ n : Nat, (∀ k, k < n → f k = g k) → sI f n = sI g n
  | 0, _ => rfl
  | n + 1, h => by
    show sI f n + f n = sI g n + g n
    rw [sI_congr n (fun k hk => h k (by omega)), h n (by omega)]
theorem sJ_congr {f g : Nat → Int64} : ∀ n : Nat, (∀ k, k < n → f k = g k) → sJ f n = sJ g n
  | 0, _ => rfl
  | n + 1, h => by
    show sJ f n + f n = sJ g n + g n
    rw [sJ_congr n (fun k hk => h k (by omega)), h n (by omega)]
theorem sO_congr {f g : Nat → Int32} : ∀ n : Nat, (∀ k, k < n → f k = g k) → sO f n = sO g n
  | 0, _ => rfl
  | n + 1, h => by
    show sO f n ||| f n = sO g n ||| g n
    rw [sO_congr n (fun k hk => h k (by omega)), h n (by omega)]
theorem i_add0 (x : Int32) : x + 0 = x := Int32.add_zero x
theorem i_or0 (x : Int32) : x ||| 0 = x := Int32.or_zero
/-- the class's rows: voices, worths, gifts, bonds; here; budgets -/
def vC (I : MI) (p q : Nat) : Int32 := I (33 + p) q
def wC (I : MI) (p q : Nat) : Int32 := I (45 + p) q
def gC (I : MI) (p j : Nat) : Int32 := I (100 + p) j
def bC (I : MI) (p r : Nat) : Int32 := I (112 + p) r
/-- the reference's -/
def vM (I : MI) (p q : Nat) : Int32 := I 22 (6 * p + q)
def wM (I : MI) (p q : Nat) : Int32 := I 23 (6 * p + q)
def gM (I : MI) (p j : Nat) : Int32 := I 24 (6 * p + j)
def bM (I : MI) (p r : Nat) : Int32 := I 25 (12 * p + r)
/-- is a number one of 0 .. n - 1 -/
def inF (x n : Int32) : Int32 := if 0 ≤ x ∧ x < n then 1 else 0
def withinF (x a b : Int32) : Int32 := if a ≤ x ∧ x ≤ b then 1 else 0
def costF (v : Nat → Nat → Int32) (Q p : Nat) : Int32 := sI (fun q => v p q * v p q) Q
def presF (h : Nat → Int32) (P : Nat) : Int32 := sI (fun p => if h p = 0 then 0 else 1) P
def countF (h : Nat → Int32) (v : Nat → Nat → Int32) (P q : Nat) : Int32 := sI (fun p => if h p = 0 then 0 else v p q) P
def lessF (h : Nat → Int32) (v : Nat → Nat → Int32) (P p q : Nat) : Int32 := if h p = 0 then countF h v P q else countF h v P q - v p q
def lotF (seed : Int32) : Nat → Int32
  | 0 => seed
  | n + 1 => lotF seed n * 1664525 + 1013904223
def bitC (x : Int32) : Int32 := (x.toUInt32 >>> ((20 : Int32).toUInt32 &&& Int32.toUInt32 31)).toInt32 &&& 1
def resF (seed : Int32) (q : Nat) (c : Int32) : Int32 := if c = 0 then (if bitC (lotF seed (q + 1)) = 1 then 1 else (-1)) else if 0 < c then 1 else (-1)
def gByF (c w : Int32) : Int32 := if 0 ≤ c then (if c = 0 then w else 2 * w) else 0
def gainF (h : Nat → Int32) (v w : Nat → Nat → Int32) (P Q p : Nat) : Int32 := sI (fun q => gByF (countF h v P q) (w p q)) Q
def swF (seed : Int32) (h : Nat → Int32) (v : Nat → Nat → Int32) (P Q p : Nat) : Int32 := sO (fun q => if resF seed q (lessF h v P p q) = resF seed q (lessF h v P p q + v p q) then 0 else 1 <<< (nI q &&& 31)) Q
theorem hx_ri {r r' : Int32} {I : MI} {J : MJ} (h : r = r') : hx_is (some (.int r')) I J (some (.int r)) I J := ⟨by rw [h], rfl, rfl⟩
theorem hx_rl {r r' : Int64} {I : MI} {J : MJ} (h : r = r') : hx_is (some (.long r')) I J (some (.long r)) I J := ⟨by rw [h], rfl, rfl⟩
def dotF (v : Nat → Nat → Int32) (Q p r : Nat) : Int64 := sJ (fun q => (v p q * v r q).toInt64) Q
def likeF (v : Nat → Nat → Int32) (Q p r : Nat) : Int32 := if (costF v Q p).toInt64 * (costF v Q r).toInt64 = 0 then (-2000) else if 0 ≤ dotF v Q p r then (dotF v Q p r * dotF v Q p r * 1000 / ((costF v Q p).toInt64 * (costF v Q r).toInt64)).toInt32 else -(dotF v Q p r * dotF v Q p r * 1000 / ((costF v Q p).toInt64 * (costF v Q r).toInt64)).toInt32
def alikeF (v : Nat → Nat → Int32) (Q : Nat) (t : Int32) (p n : Nat) : Int32 := sO (fun r => if likeF v Q p r < t then 0 else 1 <<< (nI r &&& 31)) n
/-- a pass over all people: who is reached reaches all that are alike -/
def passF (al : Nat → Int32) : Nat → Int32 → Int32
  | 0, x => x
  | n + 1, x => if (passF al n x >>> (nI n &&& 31)) &&& 1 = 1 then passF al n x ||| al n else passF al n x
def grF (al : Nat → Int32) (P : Nat) : Nat → Int32 → Int32 → Int32
  | 0, x, _ => x
  | n + 1, x, b => if x = b then x else grF al P n (passF al P x) x
def codeF (v : Nat → Nat → Int32) (p : Nat) : Nat → Int64
  | 0 => 0
  | n + 1 => codeF v p n * 81 + (v p n).toInt64 + 40
/-- 31 times, and it -/
def chF (f : Nat → Int32) : Nat → Int64 → Int64
  | 0, h => h
  | n + 1, h => 31 * chF f n h + (f n).toInt64
def onF (x : Int32) : Int32 := if x = 0 then 0 else 1
def dgHF (b : Int32) (h : Int32) (v w : Nat → Int32) (Q : Nat) (z : Int64) : Int64 := chF w Q (chF v Q (31 * (31 * z + b.toInt64) + (onF h).toInt64))
def alF (v : Nat → Nat → Int32) (Q P : Nat) (t : Int32) (a : Nat) : Int32 := alikeF v Q t a P
/-- roots, bit by bit -/
def bitL (k : Nat) : Int64 := lN (2 ^ k / 2)
def rtF (x : Int64) : Nat → Int64 → Int64
  | 0, r => r
  | k + 1, r => rtF x k (if x < (r + bitL (k + 1)) * (r + bitL (k + 1)) then r else r + bitL (k + 1))
def rootF (x : Int64) : Int64 := rtF x 29 0
def rootAF (x : Int64) : Int64 := if rootF x * rootF x = x then rootF x else rootF x + 1
theorem bitL_shr : ∀ k, k < 29 → bitL (k + 1) >>> ((1 : Int32).toInt64 &&& 63) = bitL k := by decide +kernel
theorem bitL_pos : ∀ k, k < 29 → ¬ bitL (k + 1) ≤ 0 := by decide +kernel
def fineF (g : Nat → Nat → Int32) (p r j : Nat) : Int64 := 65536 * (g p j).toInt64 * (g r j).toInt64
def accF (f : Nat → Int64) : Nat → Int64 → Int64
  | 0, z => z
  | n + 1, z => accF f n z + f n
def triF (f : Nat → Nat → Int64) : Nat → Int64
  | 0 => 0
  | P + 1 => accF (f P) P (triF f P)
def lowF (g b : Nat → Nat → Int32) (j p r : Nat) : Int64 := (b p r).toInt64 * rootF (fineF g p r j)
def wholeF (g : Nat → Nat → Int32) (j p r : Nat) : Int64 := 1000 * rootF (fineF g p r j)
def highF (g b : Nat → Nat → Int32) (j p r : Nat) : Int64 := (b p r).toInt64 * rootAF (fineF g p r j)
def mLowF (g b : Nat → Nat → Int32) (P j : Nat) : Int64 := 2 * triF (lowF g b j) P / 256000
def mWholeF (g : Nat → Nat → Int32) (P j : Nat) : Int64 := 2 * triF (wholeF g j) P / 256000
def mHighF (g b : Nat → Nat → Int32) (P j : Nat) : Int64 := (2 * triF (highF g b j) P + 256000 - 1) / 256000
/-- the row of cell k filled with m -/
def lwJ (J : MJ) (k : Nat) (m : Nat → Int64) : Nat → MJ
  | 0 => J
  | n + 1 => hx_uJ (lwJ J k m n) k n (m n)
theorem lwJ_at (J : MJ) (k : Nat) (m : Nat → Int64) : ∀ n i, i < n → lwJ J k m n k i = m i
  | n + 1, i, h => by
    show hx_uJ (lwJ J k m n) k n (m n) k i = m i
    rw [hx_uJ_same]
    unfold vp_updL
    by_cases e : i = n
    · rw [if_pos e, e]
    · rw [if_neg e]
      exact lwJ_at J k m n i (by omega)
theorem lwJ_ne (J : MJ) {k a : Nat} (m : Nat → Int64) (h : a ≠ k) : ∀ n, lwJ J k m n a = J a
  | 0 => rfl
  | n + 1 => by
    show hx_uJ (lwJ J k m n) k n (m n) a = J a
    rw [hx_uJ_ne _ _ _ h]
    exact lwJ_ne J m h n
def remF (x y : Int64) : Int64 := x - x / y * y
def lackF (m : Nat → Int64) (s pot : Int64) : Nat → Int64
  | 0 => pot
  | n + 1 => lackF m s pot n - pot * m n / s
def servF (m : Nat → Int64) (s pot : Int64) (j n : Nat) : Int32 := sI (fun i => if remF (pot * m j) s < remF (pot * m i) s ∨ (remF (pot * m i) s = remF (pot * m j) s ∧ i < j) then 1 else 0) n
def shareF (m : Nat → Int64) (R j : Nat) (pot : Int64) : Int64 := if 0 < sJ m R then (if (servF m (sJ m R) pot j R).toInt64 < lackF m (sJ m R) pot R then pot * m j / sJ m R + 1 else pot * m j / sJ m R) else 0
def dgFF (g b : Nat → Int32) (R p : Nat) (z : Int64) : Int64 := chF b p (chF g R z)
end
section
/-! the house: its methods' contracts -/
set_option maxHeartbeats 400000 in
theorem c_X1_hasPerson {l : Launch} {D : va_G} {ad : Nat → Nat} {cy : Nat → ClassId} (hi : hx_inj ad) (I : MI) (J : MJ) (x : Int32) : Ct l D ad cy yX1_hasPerson cX1_hasPerson 2 (some .boolean) 0 [.ref (ad 1), .int x] I J (hx_is (some (.int (inF x (I 1 0)))) I J) := by
  refine ct_start hi (by decide +kernel) (Nat.le_of_ble_eq_true rfl) (fun X hX hT => ?_)
  show X 0 [(0, .ref (ad 1)), (1, .int x)] [] I J
  refine wl_iload_n hX 1 rfl dX1_hasPerson_0 ?_
  refine wl_if_lt hX (tgt := 16) dX1_hasPerson_1 (by decide) (fun h1 => ?_) (fun h1 => ?_)
  · refine wl_iconst hX (v := 0) dX1_hasPerson_16 (by decide) ?_
    exact wl_zreturn hT dX1_hasPerson_17 (by decide) (hx_ri (if_neg (fun h => by rw [Int32.lt_iff_toInt_lt] at h1; have h2 := Int32.le_iff_toInt_le.mp h.1; omega)).symm)
  · refine wl_iload_n hX 1 rfl dX1_hasPerson_4 ?_
    refine wl_aload_n hX 0 rfl dX1_hasPerson_5 ?_
    refine gf_X1_0 hX tb_49 dX1_hasPerson_6 ?_
    refine wl_icmp_ge hX (tgt := 16) dX1_hasPerson_9 (by decide) (fun h2 => ?_) (fun h2 => ?_)
    · refine wl_iconst hX (v := 0) dX1_hasPerson_16 (by decide) ?_
      exact wl_zreturn hT dX1_hasPerson_17 (by decide) (hx_ri (if_neg (fun h => by have h3 := Int32.le_iff_toInt_le.mp h2; have h4 := Int32.lt_iff_toInt_lt.mp h.2; omega)).symm)
    · refine wl_iconst hX (v := 1) dX1_hasPerson_12 (by decide) ?_
      refine wl_goto hX (tgt := 17) dX1_hasPerson_13 (by decide) ?_
      exact wl_zreturn hT dX1_hasPerson_17 (by decide) (hx_ri (if_pos ⟨by rw [Int32.le_iff_toInt_le]; rw [Int32.lt_iff_toInt_lt] at h1; omega, by rw [Int32.lt_iff_toInt_lt]; rw [Int32.le_iff_toInt_le] at h2; omega⟩).symm)

set_option maxHeartbeats 400000 in
theorem c_X1_hasQuestion {l : Launch} {D : va_G} {ad : Nat → Nat} {cy : Nat → ClassId} (hi : hx_inj ad) (I : MI) (J : MJ) (x : Int32) : Ct l D ad cy yX1_hasQuestion cX1_hasQuestion 2 (some .boolean) 0 [.ref (ad 1), .int x] I J (hx_is (some (.int (inF x (I 1 1)))) I J) := by
  refine ct_start hi (by decide +kernel) (Nat.le_of_ble_eq_true rfl) (fun X hX hT => ?_)
  show X 0 [(0, .ref (ad 1)), (1, .int x)] [] I J
  refine wl_iload_n hX 1 rfl dX1_hasQuestion_0 ?_
  refine wl_if_lt hX (tgt := 16) dX1_hasQuestion_1 (by decide) (fun h1 => ?_) (fun h1 => ?_)
  · refine wl_iconst hX (v := 0) dX1_hasQuestion_16 (by decide) ?_
    exact wl_zreturn hT dX1_hasQuestion_17 (by decide) (hx_ri (if_neg (fun h => by rw [Int32.lt_iff_toInt_lt] at h1; have h2 := Int32.le_iff_toInt_le.mp h.1; omega)).symm)
  · refine wl_iload_n hX 1 rfl dX1_hasQuestion_4 ?_
    refine wl_aload_n hX 0 rfl dX1_hasQuestion_5 ?_
    refine gf_X1_1 hX tb_55 dX1_hasQuestion_6 ?_
    refine wl_icmp_ge hX (tgt := 16) dX1_hasQuestion_9 (by decide) (fun h2 => ?_) (fun h2 => ?_)
    · refine wl_iconst hX (v := 0) dX1_hasQuestion_16 (by decide) ?_
      exact wl_zreturn hT dX1_hasQuestion_17 (by decide) (hx_ri (if_neg (fun h => by have h3 := Int32.le_iff_toInt_le.mp h2; have h4 := Int32.lt_iff_toInt_lt.mp h.2; omega)).symm)
    · refine wl_iconst hX (v := 1) dX1_hasQuestion_12 (by decide) ?_
      refine wl_goto hX (tgt := 17) dX1_hasQuestion_13 (by decide) ?_
      exact wl_zreturn hT dX1_hasQuestion_17 (by decide) (hx_ri (if_pos ⟨by rw [Int32.le_iff_toInt_le]; rw [Int32.lt_iff_toInt_lt] at h1; omega, by rw [Int32.lt_iff_toInt_lt]; rw [Int32.le_iff_toInt_le] at h2; omega⟩).symm)

set_option maxHeartbeats 400000 in
theorem c_X1_costOf {l : Launch} {D : va_G} {ad : Nat → Nat} {cy : Nat → ClassId} (hi : hx_inj ad) (I : MI) (J : MJ) (p : Nat) (hp : p < 12) (Q : Nat) (hQ : I 1 1 = nI Q) (hQ6 : Q ≤ 6) : Ct l D ad cy yX1_costOf cX1_costOf 4 (some .int) 0 [.ref (ad 1), .int (nI p)] I J (hx_is (some (.int (costF (vC I) Q p))) I J) := by
  refine ct_start hi (by decide +kernel) (Nat.le_of_ble_eq_true rfl) (fun X hX hT => ?_)
  show X 0 [(0, .ref (ad 1)), (1, .int (nI p))] [] I J
  refine wl_iconst hX (v := 0) dX1_costOf_0 (by decide) ?_
  refine wl_istore_n hX (lv' := [(2, .int 0), (0, .ref (ad 1)), (1, .int (nI p))]) rfl (by decide) dX1_costOf_1 ?_
  refine wl_iconst hX (v := 0) dX1_costOf_2 (by decide) ?_
  refine wl_istore_n hX (lv' := [(3, .int 0), (2, .int 0), (0, .ref (ad 1)), (1, .int (nI p))]) rfl (by decide) dX1_costOf_3 ?_
  refine wl_sub hX [2, 3, 1, 0] rfl ?_
  have L : ∀ (k q : Nat), q ≤ Q → Q - q < k → X 4 [(0, .ref (ad 1)), (1, .int (nI p)), (2, .int (sI (fun q => vC I p q * vC I p q) q)), (3, .int (nI q))] [] I J := by
    intro k
    induction k with
    | zero => exact fun _  _ h => absurd h (Nat.not_lt_zero _)
    | succ k ihL =>
      intro q  hqn hqk
      refine wl_iload_n hX 3 rfl dX1_costOf_4 ?_
      refine wl_aload_n hX 0 rfl dX1_costOf_5 ?_
      refine gf_X1_1 hX tb_55 dX1_costOf_6 ?_
      refine wl_eqi (y := nI Q) hQ ?_
      refine wl_icmp_ge hX (tgt := 38) dX1_costOf_9 (by decide) (fun hqc => ?_) (fun hqc => ?_)
      · have hqe : q = Q := by
          have h9 := (nI_leI (by omega) (by omega)).mp hqc
          omega
        refine wl_iload_n hX 2 rfl dX1_costOf_38 ?_
        exact wl_ireturn hT dX1_costOf_39 (hx_ri (by rw [hqe]; rfl))
      · have hq1 : q < Q := Nat.lt_of_not_le (fun z => hqc ((nI_leI (by omega) (by omega)).mpr z))
        refine wl_iload_n hX 2 rfl dX1_costOf_12 ?_
        refine wl_aload_n hX 0 rfl dX1_costOf_13 ?_
        refine gf_X1_5 hX tb_64 dX1_costOf_14 ?_
        refine wl_iload_n hX 1 rfl dX1_costOf_17 ?_
        refine wl_aald4 hX p kc_8 rfl (by omega) dX1_costOf_18 ?_
        refine wl_iload_n hX 3 rfl dX1_costOf_19 ?_
        refine wl_iald hX q (kd_33 (by omega)) rfl (by omega) dX1_costOf_20 ?_
        refine wl_aload_n hX 0 rfl dX1_costOf_21 ?_
        refine gf_X1_5 hX tb_64 dX1_costOf_22 ?_
        refine wl_iload_n hX 1 rfl dX1_costOf_25 ?_
        refine wl_aald4 hX p kc_8 rfl (by omega) dX1_costOf_26 ?_
        refine wl_iload_n hX 3 rfl dX1_costOf_27 ?_
        refine wl_iald hX q (kd_33 (by omega)) rfl (by omega) dX1_costOf_28 ?_
        refine wl_imul hX dX1_costOf_29 ?_
        refine wl_iadd hX dX1_costOf_30 ?_
        refine wl_istore_n hX (lv' := [(2, .int ((sI (fun q => vC I p q * vC I p q) q) + ((I (33 + p) q) * (I (33 + p) q)))), (0, .ref (ad 1)), (1, .int (nI p)), (3, .int (nI q))]) rfl (by decide) dX1_costOf_31 ?_
        refine wl_iinc hX (v := nI (q + 1)) (lv' := [(3, .int (nI (q + 1))), (2, .int ((sI (fun q => vC I p q * vC I p q) q) + ((I (33 + p) q) * (I (33 + p) q)))), (0, .ref (ad 1)), (1, .int (nI p))]) 3 rfl (nI_1 _) rfl (by decide) dX1_costOf_32 ?_
        refine wl_goto hX (tgt := 4) dX1_costOf_35 (by decide) ?_
        refine wl_sub hX [2, 3, 1, 0] rfl ?_
        exact ihL (q + 1) (by omega) (by omega)
  exact L (Q + 1) 0 (by omega) (by omega)

set_option maxHeartbeats 400000 in
theorem c_X1_addPerson {l : Launch} {D : va_G} {ad : Nat → Nat} {cy : Nat → ClassId} (hi : hx_inj ad) (I : MI) (J : MJ) (b : Int32) (P : Nat) (hP : I 1 0 = nI P) (hP12 : P < 12) : Ct l D ad cy yX1_addPerson cX1_addPerson 2 (some .int) 0 [.ref (ad 1), .int b] I J (hx_is (some (.int (nI P))) (hx_u (hx_u (hx_u I 6 P b) 7 P 1) 1 0 (nI (P + 1))) J) := by
  refine ct_start hi (by decide +kernel) (Nat.le_of_ble_eq_true rfl) (fun X hX hT => ?_)
  show X 0 [(0, .ref (ad 1)), (1, .int b)] [] I J
  refine wl_aload_n hX 0 rfl dX1_addPerson_0 ?_
  refine gf_X1_3 hX tb_58 dX1_addPerson_1 ?_
  refine wl_aload_n hX 0 rfl dX1_addPerson_4 ?_
  refine gf_X1_0 hX tb_49 dX1_addPerson_5 ?_
  refine wl_eqi (y := nI P) hP ?_
  refine wl_iload_n hX 1 rfl dX1_addPerson_8 ?_
  refine wl_iast hX P kc_6 rfl (by omega) dX1_addPerson_9 ?_
  refine wl_aload_n hX 0 rfl dX1_addPerson_10 ?_
  refine gf_X1_4 hX tb_61 dX1_addPerson_11 ?_
  refine wl_aload_n hX 0 rfl dX1_addPerson_14 ?_
  refine gf_X1_0 hX tb_49 dX1_addPerson_15 ?_
  refine wl_eqi (y := nI P) hP ?_
  refine wl_iconst hX (v := 1) dX1_addPerson_18 (by decide) ?_
  refine wl_zast hX P kc_7 rfl (by omega) (by decide) dX1_addPerson_19 ?_
  refine wl_aload_n hX 0 rfl dX1_addPerson_20 ?_
  refine wl_dup hX dX1_addPerson_21 rfl ?_
  refine gf_X1_0 hX tb_49 dX1_addPerson_22 ?_
  refine wl_eqi (y := nI P) hP ?_
  refine wl_iconst hX (v := 1) dX1_addPerson_25 (by decide) ?_
  refine wl_iadd hX dX1_addPerson_26 ?_
  refine wl_eqi (y := nI (P + 1)) (nI_1 P) ?_
  refine pf_X1_0 hX tb_49 dX1_addPerson_27 ?_
  refine wl_aload_n hX 0 rfl dX1_addPerson_30 ?_
  refine gf_X1_0 hX tb_49 dX1_addPerson_31 ?_
  refine wl_eqi (y := nI (P + 1)) rfl ?_
  refine wl_iconst hX (v := 1) dX1_addPerson_34 (by decide) ?_
  refine wl_isub hX dX1_addPerson_35 ?_
  refine wl_eqi (y := nI P) (nI_pred P) ?_
  exact wl_ireturn hT dX1_addPerson_36 ⟨rfl, rfl, rfl⟩

set_option maxHeartbeats 400000 in
theorem c_X1_peoplePresent {l : Launch} {D : va_G} {ad : Nat → Nat} {cy : Nat → ClassId} (hi : hx_inj ad) (I : MI) (J : MJ) (P : Nat) (hP : I 1 0 = nI P) (hP12 : P ≤ 12) : Ct l D ad cy yX1_peoplePresent cX1_peoplePresent 3 (some .int) 0 [.ref (ad 1)] I J (hx_is (some (.int (presF (I 7) P))) I J) := by
  refine ct_start hi (by decide +kernel) (Nat.le_of_ble_eq_true rfl) (fun X hX hT => ?_)
  show X 0 [(0, .ref (ad 1))] [] I J
  refine wl_iconst hX (v := 0) dX1_peoplePresent_0 (by decide) ?_
  refine wl_istore_n hX (lv' := [(1, .int 0), (0, .ref (ad 1))]) rfl (by decide) dX1_peoplePresent_1 ?_
  refine wl_iconst hX (v := 0) dX1_peoplePresent_2 (by decide) ?_
  refine wl_istore_n hX (lv' := [(2, .int 0), (1, .int 0), (0, .ref (ad 1))]) rfl (by decide) dX1_peoplePresent_3 ?_
  refine wl_sub hX [2, 1, 0] rfl ?_
  have L : ∀ (k q : Nat), q ≤ P → P - q < k → X 4 [(0, .ref (ad 1)), (1, .int (presF (I 7) q)), (2, .int (nI q))] [] I J := by
    intro k
    induction k with
    | zero => exact fun _  _ h => absurd h (Nat.not_lt_zero _)
    | succ k ihL =>
      intro q  hqn hqk
      refine wl_iload_n hX 2 rfl dX1_peoplePresent_4 ?_
      refine wl_aload_n hX 0 rfl dX1_peoplePresent_5 ?_
      refine gf_X1_0 hX tb_49 dX1_peoplePresent_6 ?_
      refine wl_eqi (y := nI P) hP ?_
      refine wl_icmp_ge hX (tgt := 30) dX1_peoplePresent_9 (by decide) (fun hqc => ?_) (fun hqc => ?_)
      · have hqe : q = P := by
          have h9 := (nI_leI (by omega) (by omega)).mp hqc
          omega
        refine wl_iload_n hX 1 rfl dX1_peoplePresent_30 ?_
        exact wl_ireturn hT dX1_peoplePresent_31 (hx_ri (by rw [hqe]))
      · have hq1 : q < P := Nat.lt_of_not_le (fun z => hqc ((nI_leI (by omega) (by omega)).mpr z))
        refine wl_aload_n hX 0 rfl dX1_peoplePresent_12 ?_
        refine gf_X1_4 hX tb_61 dX1_peoplePresent_13 ?_
        refine wl_iload_n hX 2 rfl dX1_peoplePresent_16 ?_
        refine wl_zald hX q kc_7 rfl (by omega) dX1_peoplePresent_17 ?_
        refine wl_if_eq hX (tgt := 24) dX1_peoplePresent_18 (by decide) (fun h2 => ?_) (fun h2 => ?_)
        · have e2 : presF (I 7) (q + 1) = presF (I 7) q := by
            show _ + (if I 7 q = 0 then 0 else 1) = _
            rw [if_pos h2]; exact i_add0 _
          rw [← e2]
          refine wl_iinc hX (v := nI (q + 1)) (lv' := [(2, .int (nI (q + 1))), (0, .ref (ad 1)), (1, .int (presF (I 7) (q + 1)))]) 2 rfl (nI_1 _) rfl (by decide) dX1_peoplePresent_24 ?_
          refine wl_goto hX (tgt := 4) dX1_peoplePresent_27 (by decide) ?_
          refine wl_sub hX [1, 2, 0] rfl ?_
          exact ihL (q + 1) (by omega) (by omega)
        · have e2 : presF (I 7) q + 1 = presF (I 7) (q + 1) := by
            show _ = _ + (if I 7 q = 0 then 0 else 1)
            rw [if_neg h2]; rfl
          refine wl_iinc hX (v := presF (I 7) (q + 1)) (lv' := [(1, .int (presF (I 7) (q + 1))), (0, .ref (ad 1)), (2, .int (nI q))]) 1 rfl (by exact e2) rfl (by decide) dX1_peoplePresent_21 ?_
          refine wl_iinc hX (v := nI (q + 1)) (lv' := [(2, .int (nI (q + 1))), (1, .int (presF (I 7) (q + 1))), (0, .ref (ad 1))]) 2 rfl (nI_1 _) rfl (by decide) dX1_peoplePresent_24 ?_
          refine wl_goto hX (tgt := 4) dX1_peoplePresent_27 (by decide) ?_
          refine wl_sub hX [2, 1, 0] rfl ?_
          exact ihL (q + 1) (by omega) (by omega)
  exact L (P + 1) 0 (by omega) (by omega)

set_option maxHeartbeats 400000 in
theorem c_X1_countOf {l : Launch} {D : va_G} {ad : Nat → Nat} {cy : Nat → ClassId} (hi : hx_inj ad) (I : MI) (J : MJ) (q : Nat) (hq : q < 6) (P : Nat) (hP : I 1 0 = nI P) (hP12 : P ≤ 12) : Ct l D ad cy yX1_countOf cX1_countOf 4 (some .int) 0 [.ref (ad 1), .int (nI q)] I J (hx_is (some (.int (countF (I 7) (vC I) P q))) I J) := by
  refine ct_start hi (by decide +kernel) (Nat.le_of_ble_eq_true rfl) (fun X hX hT => ?_)
  show X 0 [(0, .ref (ad 1)), (1, .int (nI q))] [] I J
  refine wl_iconst hX (v := 0) dX1_countOf_0 (by decide) ?_
  refine wl_istore_n hX (lv' := [(2, .int 0), (0, .ref (ad 1)), (1, .int (nI q))]) rfl (by decide) dX1_countOf_1 ?_
  refine wl_iconst hX (v := 0) dX1_countOf_2 (by decide) ?_
  refine wl_istore_n hX (lv' := [(3, .int 0), (2, .int 0), (0, .ref (ad 1)), (1, .int (nI q))]) rfl (by decide) dX1_countOf_3 ?_
  refine wl_sub hX [2, 3, 1, 0] rfl ?_
  have L : ∀ (k p : Nat), p ≤ P → P - p < k → X 4 [(0, .ref (ad 1)), (1, .int (nI q)), (2, .int (countF (I 7) (vC I) p q)), (3, .int (nI p))] [] I J := by
    intro k
    induction k with
    | zero => exact fun _  _ h => absurd h (Nat.not_lt_zero _)
    | succ k ihL =>
      intro p  hpn hpk
      refine wl_iload_n hX 3 rfl dX1_countOf_4 ?_
      refine wl_aload_n hX 0 rfl dX1_countOf_5 ?_
      refine gf_X1_0 hX tb_49 dX1_countOf_6 ?_
      refine wl_eqi (y := nI P) hP ?_
      refine wl_icmp_ge hX (tgt := 38) dX1_countOf_9 (by decide) (fun hpc => ?_) (fun hpc => ?_)
      · have hpe : p = P := by
          have h9 := (nI_leI (by omega) (by omega)).mp hpc
          omega
        refine wl_iload_n hX 2 rfl dX1_countOf_38 ?_
        exact wl_ireturn hT dX1_countOf_39 (hx_ri (by rw [hpe]))
      · have hp1 : p < P := Nat.lt_of_not_le (fun z => hpc ((nI_leI (by omega) (by omega)).mpr z))
        refine wl_aload_n hX 0 rfl dX1_countOf_12 ?_
        refine gf_X1_4 hX tb_61 dX1_countOf_13 ?_
        refine wl_iload_n hX 3 rfl dX1_countOf_16 ?_
        refine wl_zald hX p kc_7 rfl (by omega) dX1_countOf_17 ?_
        refine wl_if_eq hX (tgt := 32) dX1_countOf_18 (by decide) (fun h2 => ?_) (fun h2 => ?_)
        · have e2 : countF (I 7) (vC I) (p + 1) q = countF (I 7) (vC I) p q := by
            show _ + (if I 7 p = 0 then 0 else vC I p q) = _
            rw [if_pos h2]; exact i_add0 _
          rw [← e2]
          refine wl_iinc hX (v := nI (p + 1)) (lv' := [(3, .int (nI (p + 1))), (0, .ref (ad 1)), (1, .int (nI q)), (2, .int (countF (I 7) (vC I) (p + 1) q))]) 3 rfl (nI_1 _) rfl (by decide) dX1_countOf_32 ?_
          refine wl_goto hX (tgt := 4) dX1_countOf_35 (by decide) ?_
          refine wl_sub hX [1, 2, 3, 0] rfl ?_
          exact ihL (p + 1) (by omega) (by omega)
        · have e2 : countF (I 7) (vC I) p q + I (33 + p) q = countF (I 7) (vC I) (p + 1) q := by
            show _ = _ + (if I 7 p = 0 then 0 else vC I p q)
            rw [if_neg h2]; rfl
          refine wl_iload_n hX 2 rfl dX1_countOf_21 ?_
          refine wl_aload_n hX 0 rfl dX1_countOf_22 ?_
          refine gf_X1_5 hX tb_64 dX1_countOf_23 ?_
          refine wl_iload_n hX 3 rfl dX1_countOf_26 ?_
          refine wl_aald4 hX p kc_8 rfl (by omega) dX1_countOf_27 ?_
          refine wl_iload_n hX 1 rfl dX1_countOf_28 ?_
          refine wl_iald hX q (kd_33 (by omega)) rfl (by omega) dX1_countOf_29 ?_
          refine wl_iadd hX dX1_countOf_30 ?_
          refine wl_eqi (y := countF (I 7) (vC I) (p + 1) q) e2 ?_
          refine wl_istore_n hX (lv' := [(2, .int (countF (I 7) (vC I) (p + 1) q)), (0, .ref (ad 1)), (1, .int (nI q)), (3, .int (nI p))]) rfl (by decide) dX1_countOf_31 ?_
          refine wl_iinc hX (v := nI (p + 1)) (lv' := [(3, .int (nI (p + 1))), (2, .int (countF (I 7) (vC I) (p + 1) q)), (0, .ref (ad 1)), (1, .int (nI q))]) 3 rfl (nI_1 _) rfl (by decide) dX1_countOf_32 ?_
          refine wl_goto hX (tgt := 4) dX1_countOf_35 (by decide) ?_
          refine wl_sub hX [2, 3, 1, 0] rfl ?_
          exact ihL (p + 1) (by omega) (by omega)
  exact L (P + 1) 0 (by omega) (by omega)

set_option maxHeartbeats 400000 in
theorem c_X1_countWithout {l : Launch} {D : va_G} {ad : Nat → Nat} {cy : Nat → ClassId} (hi : hx_inj ad) (I : MI) (J : MJ) (p q : Nat) (hp : p < 12) (hq : q < 6) (P : Nat) (hP : I 1 0 = nI P) (hP12 : P ≤ 12) : Ct l D ad cy yX1_countWithout cX1_countWithout 4 (some .int) 1 [.ref (ad 1), .int (nI p), .int (nI q)] I J (hx_is (some (.int (lessF (I 7) (vC I) P p q))) I J) := by
  refine ct_start hi (by decide +kernel) (Nat.le_of_ble_eq_true rfl) (fun X hX hT => ?_)
  show X 0 [(0, .ref (ad 1)), (1, .int (nI p)), (2, .int (nI q))] [] I J
  refine wl_aload_n hX 0 rfl dX1_countWithout_0 ?_
  refine wl_iload_n hX 2 rfl dX1_countWithout_1 ?_
  refine wl_cVi hX (c_X1_countOf hi I J q hq P hP hP12) mv_X1_countOf tb_284 (by decide) rfl rfl rfl rfl (by omega) (Nat.le_of_ble_eq_true rfl) dX1_countWithout_2 ?_
  refine wl_istore_n hX (lv' := [(3, .int (countF (I 7) (vC I) P q)), (0, .ref (ad 1)), (1, .int (nI p)), (2, .int (nI q))]) rfl (by decide) dX1_countWithout_5 ?_
  refine wl_aload_n hX 1 rfl dX1_countWithout_6 ?_
  refine gf_X1_4 hX tb_61 dX1_countWithout_7 ?_
  refine wl_iload_n hX 2 rfl dX1_countWithout_10 ?_
  refine wl_zald hX p kc_7 rfl (by omega) dX1_countWithout_11 ?_
  refine wl_if_eq hX (tgt := 28) dX1_countWithout_12 (by decide) (fun h2 => ?_) (fun h2 => ?_)
  · refine wl_iload_n hX 0 rfl dX1_countWithout_28 ?_
    exact wl_ireturn hT dX1_countWithout_29 (hx_ri (by unfold lessF; rw [if_pos h2]))
  · refine wl_iload_n hX 0 rfl dX1_countWithout_15 ?_
    refine wl_aload_n hX 1 rfl dX1_countWithout_16 ?_
    refine gf_X1_5 hX tb_64 dX1_countWithout_17 ?_
    refine wl_iload_n hX 2 rfl dX1_countWithout_20 ?_
    refine wl_aald4 hX p kc_8 rfl (by omega) dX1_countWithout_21 ?_
    refine wl_iload_n hX 3 rfl dX1_countWithout_22 ?_
    refine wl_iald hX q (kd_33 (by omega)) rfl (by omega) dX1_countWithout_23 ?_
    refine wl_isub hX dX1_countWithout_24 ?_
    refine wl_goto hX (tgt := 29) dX1_countWithout_25 (by decide) ?_
    exact wl_ireturn hT dX1_countWithout_29 (hx_ri (by unfold lessF; rw [if_neg h2]; rfl))

set_option maxHeartbeats 400000 in
theorem c_X1_resultOf {l : Launch} {D : va_G} {ad : Nat → Nat} {cy : Nat → ClassId} (hi : hx_inj ad) (I : MI) (J : MJ) (q : Nat) (c : Int32) (hq : q < 6) : Ct l D ad cy yX1_resultOf cX1_resultOf 5 (some .int) 0 [.ref (ad 1), .int (nI q), .int c] I J (hx_is (some (.int (resF (I 1 2) q c))) I J) := by
  refine ct_start hi (by decide +kernel) (Nat.le_of_ble_eq_true rfl) (fun X hX hT => ?_)
  show X 0 [(0, .ref (ad 1)), (1, .int (nI q)), (2, .int c)] [] I J
  refine wl_iload_n hX 2 rfl dX1_resultOf_0 ?_
  refine wl_if_eq hX (tgt := 14) dX1_resultOf_1 (by decide) (fun h1 => ?_) (fun h1 => ?_)
  · refine wl_aload_n hX 0 rfl dX1_resultOf_14 ?_
    refine gf_X1_2 hX tb_57 dX1_resultOf_15 ?_
    refine wl_istore_n hX (lv' := [(3, .int (I 1 2)), (0, .ref (ad 1)), (1, .int (nI q)), (2, .int c)]) rfl (by decide) dX1_resultOf_18 ?_
    refine wl_iconst hX (v := 0) dX1_resultOf_19 (by decide) ?_
    refine wl_istore hX (lv' := [(4, .int 0), (3, .int (I 1 2)), (0, .ref (ad 1)), (1, .int (nI q)), (2, .int c)]) rfl (by decide) dX1_resultOf_20 ?_
    refine wl_sub hX [2, 3, 4, 1, 0] rfl ?_
    have L : ∀ (k i : Nat), i ≤ (q + 1) → (q + 1) - i < k → X 22 [(0, .ref (ad 1)), (1, .int (nI q)), (2, .int c), (3, .int (lotF (I 1 2) i)), (4, .int (nI i))] [] I J := by
      intro k
      induction k with
      | zero => exact fun _  _ h => absurd h (Nat.not_lt_zero _)
      | succ k ihL =>
        intro i  hin hik
        refine wl_iload hX 4 rfl dX1_resultOf_22 ?_
        refine wl_iload_n hX 1 rfl dX1_resultOf_24 ?_
        refine wl_icmp_gt hX (tgt := 42) dX1_resultOf_25 (by decide) (fun hic => ?_) (fun hic => ?_)
        · have hie : i = q + 1 := by
            have h9 := (nI_ltI (by omega) (by omega)).mp hic
            omega
          refine wl_iload_n hX 3 rfl dX1_resultOf_42 ?_
          refine wl_bipush hX (v := 20) dX1_resultOf_43 (by decide) ?_
          refine wl_iushr hX (v := ((lotF (I 1 2) i).toUInt32 >>> ((20 : Int32).toUInt32 &&& Int32.toUInt32 31)).toInt32) dX1_resultOf_45 rfl ?_
          refine wl_iconst hX (v := 1) dX1_resultOf_46 (by decide) ?_
          refine wl_iand hX dX1_resultOf_47 ?_
          refine wl_iconst hX (v := 1) dX1_resultOf_48 (by decide) ?_
          refine wl_icmp_ne hX (tgt := 56) dX1_resultOf_49 (by decide) (fun h5 => ?_) (fun h5 => ?_)
          · refine wl_iconst hX (v := (-1)) dX1_resultOf_56 (by decide) ?_
            exact wl_ireturn hT dX1_resultOf_57 (hx_ri (by unfold resF; rw [if_pos h1, if_neg (by rw [← hie]; exact h5)]))
          · refine wl_iconst hX (v := 1) dX1_resultOf_52 (by decide) ?_
            refine wl_goto hX (tgt := 57) dX1_resultOf_53 (by decide) ?_
            exact wl_ireturn hT dX1_resultOf_57 (hx_ri (by unfold resF; rw [if_pos h1, if_pos (by rw [← hie]; exact h5)]))
        · have hi1 : i ≤ q := Nat.le_of_not_lt (fun z => hic ((nI_ltI (by omega) (by omega)).mpr z))
          refine wl_iload_n hX 3 rfl dX1_resultOf_28 ?_
          refine wl_ldc hX tb_273 dX1_resultOf_29 ?_
          refine wl_imul hX dX1_resultOf_31 ?_
          refine wl_ldc hX tb_274 dX1_resultOf_32 ?_
          refine wl_iadd hX dX1_resultOf_34 ?_
          refine wl_istore_n hX (lv' := [(3, .int (((lotF (I 1 2) i) * 1664525) + 1013904223)), (0, .ref (ad 1)), (1, .int (nI q)), (2, .int c), (4, .int (nI i))]) rfl (by decide) dX1_resultOf_35 ?_
          refine wl_iinc hX (v := nI (i + 1)) (lv' := [(4, .int (nI (i + 1))), (3, .int (((lotF (I 1 2) i) * 1664525) + 1013904223)), (0, .ref (ad 1)), (1, .int (nI q)), (2, .int c)]) 4 rfl (nI_1 _) rfl (by decide) dX1_resultOf_36 ?_
          refine wl_goto hX (tgt := 22) dX1_resultOf_39 (by decide) ?_
          refine wl_sub hX [2, 3, 4, 1, 0] rfl ?_
          exact ihL (i + 1) (by omega) (by omega)
    exact L (q + 1 + 1) 0 (by omega) (by omega)
  · refine wl_iload_n hX 2 rfl dX1_resultOf_4 ?_
    refine wl_if_le hX (tgt := 12) dX1_resultOf_5 (by decide) (fun h2 => ?_) (fun h2 => ?_)
    · refine wl_iconst hX (v := (-1)) dX1_resultOf_12 (by decide) ?_
      exact wl_ireturn hT dX1_resultOf_13 (hx_ri (by unfold resF; rw [if_neg h1, if_neg (fun h => by rw [Int32.lt_iff_toInt_lt] at h; rw [Int32.le_iff_toInt_le] at h2; omega)]))
    · refine wl_iconst hX (v := 1) dX1_resultOf_8 (by decide) ?_
      refine wl_goto hX (tgt := 13) dX1_resultOf_9 (by decide) ?_
      exact wl_ireturn hT dX1_resultOf_13 (hx_ri (by unfold resF; rw [if_neg h1, if_pos (by rw [Int32.le_iff_toInt_le] at h2; rw [Int32.lt_iff_toInt_lt]; omega)]))

set_option maxHeartbeats 400000 in
theorem c_X1_gainBy {l : Launch} {D : va_G} {ad : Nat → Nat} {cy : Nat → ClassId} (hi : hx_inj ad) (I : MI) (J : MJ) (c w : Int32) : Ct l D ad cy yX1_gainBy cX1_gainBy 2 (some .int) 0 [.int c, .int w] I J (hx_is (some (.int (gByF c w))) I J) := by
  refine ct_start hi (by decide +kernel) (Nat.le_of_ble_eq_true rfl) (fun X hX hT => ?_)
  show X 0 [(0, .int c), (1, .int w)] [] I J
  refine wl_iload_n hX 0 rfl dX1_gainBy_0 ?_
  refine wl_if_ge hX (tgt := 6) dX1_gainBy_1 (by decide) (fun h1 => ?_) (fun h1 => ?_)
  · refine wl_iload_n hX 0 rfl dX1_gainBy_6 ?_
    refine wl_if_ne hX (tgt := 14) dX1_gainBy_7 (by decide) (fun h2 => ?_) (fun h2 => ?_)
    · refine wl_iconst hX (v := 2) dX1_gainBy_14 (by decide) ?_
      refine wl_iload_n hX 1 rfl dX1_gainBy_15 ?_
      refine wl_imul hX dX1_gainBy_16 ?_
      exact wl_ireturn hT dX1_gainBy_17 (hx_ri (by unfold gByF; rw [if_pos h1, if_neg h2]))
    · refine wl_iload_n hX 1 rfl dX1_gainBy_10 ?_
      refine wl_goto hX (tgt := 17) dX1_gainBy_11 (by decide) ?_
      exact wl_ireturn hT dX1_gainBy_17 (hx_ri (by unfold gByF; rw [if_pos h1, if_pos h2]))
  · refine wl_iconst hX (v := 0) dX1_gainBy_4 (by decide) ?_
    exact wl_ireturn hT dX1_gainBy_5 (hx_ri (by unfold gByF; rw [if_neg h1]))

set_option maxHeartbeats 400000 in
theorem c_X1_gainOf {l : Launch} {D : va_G} {ad : Nat → Nat} {cy : Nat → ClassId} (hi : hx_inj ad) (I : MI) (J : MJ) (p : Nat) (hp : p < 12) (P : Nat) (hP : I 1 0 = nI P) (hP12 : P ≤ 12) (Q : Nat) (hQ : I 1 1 = nI Q) (hQ6 : Q ≤ 6) : Ct l D ad cy yX1_gainOf cX1_gainOf 4 (some .int) 1 [.ref (ad 1), .int (nI p)] I J (hx_is (some (.int (gainF (I 7) (vC I) (wC I) P Q p))) I J) := by
  refine ct_start hi (by decide +kernel) (Nat.le_of_ble_eq_true rfl) (fun X hX hT => ?_)
  show X 0 [(0, .ref (ad 1)), (1, .int (nI p))] [] I J
  refine wl_iconst hX (v := 0) dX1_gainOf_0 (by decide) ?_
  refine wl_istore_n hX (lv' := [(2, .int 0), (0, .ref (ad 1)), (1, .int (nI p))]) rfl (by decide) dX1_gainOf_1 ?_
  refine wl_iconst hX (v := 0) dX1_gainOf_2 (by decide) ?_
  refine wl_istore_n hX (lv' := [(3, .int 0), (2, .int 0), (0, .ref (ad 1)), (1, .int (nI p))]) rfl (by decide) dX1_gainOf_3 ?_
  refine wl_sub hX [2, 3, 1, 0] rfl ?_
  have L : ∀ (k q : Nat), q ≤ Q → Q - q < k → X 4 [(0, .ref (ad 1)), (1, .int (nI p)), (2, .int (gainF (I 7) (vC I) (wC I) P q p)), (3, .int (nI q))] [] I J := by
    intro k
    induction k with
    | zero => exact fun _  _ h => absurd h (Nat.not_lt_zero _)
    | succ k ihL =>
      intro q  hqn hqk
      refine wl_iload_n hX 3 rfl dX1_gainOf_4 ?_
      refine wl_aload_n hX 0 rfl dX1_gainOf_5 ?_
      refine gf_X1_1 hX tb_55 dX1_gainOf_6 ?_
      refine wl_eqi (y := nI Q) hQ ?_
      refine wl_icmp_ge hX (tgt := 37) dX1_gainOf_9 (by decide) (fun hqc => ?_) (fun hqc => ?_)
      · have hqe : q = Q := by
          have h9 := (nI_leI (by omega) (by omega)).mp hqc
          omega
        refine wl_iload_n hX 2 rfl dX1_gainOf_37 ?_
        exact wl_ireturn hT dX1_gainOf_38 (hx_ri (by rw [hqe]))
      · have hq1 : q < Q := Nat.lt_of_not_le (fun z => hqc ((nI_leI (by omega) (by omega)).mpr z))
        refine wl_iload_n hX 2 rfl dX1_gainOf_12 ?_
        refine wl_aload_n hX 0 rfl dX1_gainOf_13 ?_
        refine wl_iload_n hX 3 rfl dX1_gainOf_14 ?_
        refine wl_cVi hX (c_X1_countOf hi I J q (by omega) P hP hP12) mv_X1_countOf tb_284 (by decide) rfl rfl rfl rfl (by omega) (Nat.le_of_ble_eq_true rfl) dX1_gainOf_15 ?_
        refine wl_aload_n hX 0 rfl dX1_gainOf_18 ?_
        refine gf_X1_6 hX tb_67 dX1_gainOf_19 ?_
        refine wl_iload_n hX 1 rfl dX1_gainOf_22 ?_
        refine wl_aald4 hX p kc_9 rfl (by omega) dX1_gainOf_23 ?_
        refine wl_iload_n hX 3 rfl dX1_gainOf_24 ?_
        refine wl_iald hX q (kd_45 (by omega)) rfl (by omega) dX1_gainOf_25 ?_
        refine wl_cSi hX (c_X1_gainBy hi I J (countF (I 7) (vC I) P q) (I (45 + p) q)) mv_X1_gainBy tb_285 rfl rfl (by omega) (Nat.le_of_ble_eq_true rfl) dX1_gainOf_26 ?_
        refine wl_iadd hX dX1_gainOf_29 ?_
        refine wl_eqi (y := gainF (I 7) (vC I) (wC I) P (q + 1) p) rfl ?_
        refine wl_istore_n hX (lv' := [(2, .int (gainF (I 7) (vC I) (wC I) P (q + 1) p)), (0, .ref (ad 1)), (1, .int (nI p)), (3, .int (nI q))]) rfl (by decide) dX1_gainOf_30 ?_
        refine wl_iinc hX (v := nI (q + 1)) (lv' := [(3, .int (nI (q + 1))), (2, .int (gainF (I 7) (vC I) (wC I) P (q + 1) p)), (0, .ref (ad 1)), (1, .int (nI p))]) 3 rfl (nI_1 _) rfl (by decide) dX1_gainOf_31 ?_
        refine wl_goto hX (tgt := 4) dX1_gainOf_34 (by decide) ?_
        refine wl_sub hX [2, 3, 1, 0] rfl ?_
        exact ihL (q + 1) (by omega) (by omega)
  exact L (Q + 1) 0 (by omega) (by omega)

set_option maxHeartbeats 400000 in
theorem c_X1_swingsOf {l : Launch} {D : va_G} {ad : Nat → Nat} {cy : Nat → ClassId} (hi : hx_inj ad) (I : MI) (J : MJ) (p : Nat) (hp : p < 12) (P : Nat) (hP : I 1 0 = nI P) (hP12 : P ≤ 12) (Q : Nat) (hQ : I 1 1 = nI Q) (hQ6 : Q ≤ 6) : Ct l D ad cy yX1_swingsOf cX1_swingsOf 5 (some .int) 2 [.ref (ad 1), .int (nI p)] I J (hx_is (some (.int (swF (I 1 2) (I 7) (vC I) P Q p))) I J) := by
  refine ct_start hi (by decide +kernel) (Nat.le_of_ble_eq_true rfl) (fun X hX hT => ?_)
  show X 0 [(0, .ref (ad 1)), (1, .int (nI p))] [] I J
  refine wl_iconst hX (v := 0) dX1_swingsOf_0 (by decide) ?_
  refine wl_istore_n hX (lv' := [(2, .int 0), (0, .ref (ad 1)), (1, .int (nI p))]) rfl (by decide) dX1_swingsOf_1 ?_
  refine wl_iconst hX (v := 0) dX1_swingsOf_2 (by decide) ?_
  refine wl_istore_n hX (lv' := [(3, .int 0), (2, .int 0), (0, .ref (ad 1)), (1, .int (nI p))]) rfl (by decide) dX1_swingsOf_3 ?_
  refine wl_sub hX [2, 3, 1, 0] rfl ?_
  have L : ∀ (k q : Nat), q ≤ Q → Q - q < k → X 4 [(0, .ref (ad 1)), (1, .int (nI p)), (2, .int (swF (I 1 2) (I 7) (vC I) P q p)), (3, .int (nI q))] [] I J := by
    intro k
    induction k with
    | zero => exact fun _  _ h => absurd h (Nat.not_lt_zero _)
    | succ k ihL =>
      intro q  hqn hqk
      refine wl_iload_n hX 3 rfl dX1_swingsOf_4 ?_
      refine wl_aload_n hX 0 rfl dX1_swingsOf_5 ?_
      refine gf_X1_1 hX tb_55 dX1_swingsOf_6 ?_
      refine wl_eqi (y := nI Q) hQ ?_
      refine wl_icmp_ge hX (tgt := 58) dX1_swingsOf_9 (by decide) (fun hqc => ?_) (fun hqc => ?_)
      · have hqe : q = Q := by
          have h9 := (nI_leI (by omega) (by omega)).mp hqc
          omega
        refine wl_iload_n hX 2 rfl dX1_swingsOf_58 ?_
        exact wl_ireturn hT dX1_swingsOf_59 (hx_ri (by rw [hqe]))
      · have hq1 : q < Q := Nat.lt_of_not_le (fun z => hqc ((nI_leI (by omega) (by omega)).mpr z))
        refine wl_aload_n hX 0 rfl dX1_swingsOf_12 ?_
        refine wl_iload_n hX 1 rfl dX1_swingsOf_13 ?_
        refine wl_iload_n hX 3 rfl dX1_swingsOf_14 ?_
        refine wl_cVi hX (c_X1_countWithout hi I J p q hp (by omega) P hP hP12) mv_X1_countWithout tb_296 (by decide) rfl rfl rfl rfl (by omega) (Nat.le_of_ble_eq_true rfl) dX1_swingsOf_15 ?_
        refine wl_istore hX (lv' := [(4, .int (lessF (I 7) (vC I) P p q)), (0, .ref (ad 1)), (1, .int (nI p)), (2, .int (swF (I 1 2) (I 7) (vC I) P q p)), (3, .int (nI q))]) rfl (by decide) dX1_swingsOf_18 ?_
        refine wl_aload_n hX 1 rfl dX1_swingsOf_20 ?_
        refine wl_iload_n hX 4 rfl dX1_swingsOf_21 ?_
        refine wl_iload hX 0 rfl dX1_swingsOf_22 ?_
        refine wl_cVi hX (c_X1_resultOf hi I J q (lessF (I 7) (vC I) P p q) (by omega)) mv_X1_resultOf tb_300 (by decide) rfl rfl rfl rfl (by omega) (Nat.le_of_ble_eq_true rfl) dX1_swingsOf_24 ?_
        refine wl_aload_n hX 1 rfl dX1_swingsOf_27 ?_
        refine wl_iload_n hX 4 rfl dX1_swingsOf_28 ?_
        refine wl_iload hX 0 rfl dX1_swingsOf_29 ?_
        refine wl_aload_n hX 1 rfl dX1_swingsOf_31 ?_
        refine gf_X1_5 hX tb_64 dX1_swingsOf_32 ?_
        refine wl_iload_n hX 2 rfl dX1_swingsOf_35 ?_
        refine wl_aald4 hX p kc_8 rfl (by omega) dX1_swingsOf_36 ?_
        refine wl_iload_n hX 4 rfl dX1_swingsOf_37 ?_
        refine wl_iald hX q (kd_33 (by omega)) rfl (by omega) dX1_swingsOf_38 ?_
        refine wl_iadd hX dX1_swingsOf_39 ?_
        refine wl_cVi hX (c_X1_resultOf hi I J q (lessF (I 7) (vC I) P p q + I (33 + p) q) (by omega)) mv_X1_resultOf tb_300 (by decide) rfl rfl rfl rfl (by omega) (Nat.le_of_ble_eq_true rfl) dX1_swingsOf_40 ?_
        refine wl_icmp_eq hX (tgt := 52) dX1_swingsOf_43 (by decide) (fun h2 => ?_) (fun h2 => ?_)
        · have e2 : swF (I 1 2) (I 7) (vC I) P (q + 1) p = swF (I 1 2) (I 7) (vC I) P q p ||| (if resF (I 1 2) q (lessF (I 7) (vC I) P p q) = resF (I 1 2) q (lessF (I 7) (vC I) P p q + I (33 + p) q) then (0 : Int32) else 1 <<< (nI q &&& 31)) := rfl
          rw [if_pos h2, i_or0] at e2
          rw [← e2]
          refine wl_iinc hX (v := nI (q + 1)) (lv' := [(3, .int (nI (q + 1))), (4, .int (lessF (I 7) (vC I) P p q)), (0, .ref (ad 1)), (1, .int (nI p)), (2, .int (swF (I 1 2) (I 7) (vC I) P (q + 1) p))]) 4 rfl (nI_1 _) rfl (by decide) dX1_swingsOf_52 ?_
          refine wl_goto hX (tgt := 4) dX1_swingsOf_55 (by decide) ?_
          refine wl_sub hX [2, 3, 4, 0] rfl ?_
          exact ihL (q + 1) (by omega) (by omega)
        · have e2 : swF (I 1 2) (I 7) (vC I) P (q + 1) p = swF (I 1 2) (I 7) (vC I) P q p ||| (if resF (I 1 2) q (lessF (I 7) (vC I) P p q) = resF (I 1 2) q (lessF (I 7) (vC I) P p q + I (33 + p) q) then (0 : Int32) else 1 <<< (nI q &&& 31)) := rfl
          rw [if_neg h2] at e2
          refine wl_iload_n hX 3 rfl dX1_swingsOf_46 ?_
          refine wl_iconst hX (v := 1) dX1_swingsOf_47 (by decide) ?_
          refine wl_iload_n hX 4 rfl dX1_swingsOf_48 ?_
          refine wl_ishl hX dX1_swingsOf_49 ?_
          refine wl_ior hX dX1_swingsOf_50 ?_
          refine wl_eqi (y := swF (I 1 2) (I 7) (vC I) P (q + 1) p) e2.symm ?_
          refine wl_istore_n hX (lv' := [(2, .int (swF (I 1 2) (I 7) (vC I) P (q + 1) p)), (4, .int (lessF (I 7) (vC I) P p q)), (0, .ref (ad 1)), (1, .int (nI p)), (3, .int (nI q))]) rfl (by decide) dX1_swingsOf_51 ?_
          refine wl_iinc hX (v := nI (q + 1)) (lv' := [(3, .int (nI (q + 1))), (2, .int (swF (I 1 2) (I 7) (vC I) P (q + 1) p)), (4, .int (lessF (I 7) (vC I) P p q)), (0, .ref (ad 1)), (1, .int (nI p))]) 4 rfl (nI_1 _) rfl (by decide) dX1_swingsOf_52 ?_
          refine wl_goto hX (tgt := 4) dX1_swingsOf_55 (by decide) ?_
          refine wl_sub hX [3, 4, 1, 0] rfl ?_
          exact ihL (q + 1) (by omega) (by omega)
  exact L (Q + 1) 0 (by omega) (by omega)
end
section
/-! the house, the second part -/
set_option maxHeartbeats 1000000 in
theorem c_X1_likenessOf {l : Launch} {D : va_G} {ad : Nat → Nat} {cy : Nat → ClassId} (hi : hx_inj ad) (I : MI) (J : MJ) (p r : Nat) (hp : p < 12) (hr : r < 12) (Q : Nat) (hQ : I 1 1 = nI Q) (hQ6 : Q ≤ 6) : Ct l D ad cy yX1_likenessOf cX1_likenessOf 8 (some .int) 1 [.ref (ad 1), .int (nI p), .int (nI r)] I J (hx_is (some (.int (likeF (vC I) Q p r))) I J) := by
  refine ct_start hi (by decide +kernel) (Nat.le_of_ble_eq_true rfl) (fun X hX hT => ?_)
  show X 0 [(0, .ref (ad 1)), (1, .int (nI p)), (2, .int (nI r))] [] I J
  refine wl_aload_n hX 0 rfl dX1_likenessOf_0 ?_
  refine wl_iload_n hX 1 rfl dX1_likenessOf_1 ?_
  refine wl_cVi hX (c_X1_costOf hi I J p hp Q hQ hQ6) mv_X1_costOf tb_455 (by decide) rfl rfl rfl rfl (by omega) (Nat.le_of_ble_eq_true rfl) dX1_likenessOf_2 ?_
  refine wl_i2l hX (v := (costF (vC I) Q p).toInt64) dX1_likenessOf_5 rfl ?_
  refine wl_aload_n hX 0 rfl dX1_likenessOf_6 ?_
  refine wl_iload_n hX 2 rfl dX1_likenessOf_7 ?_
  refine wl_cVi hX (c_X1_costOf hi I J r hr Q hQ hQ6) mv_X1_costOf tb_455 (by decide) rfl rfl rfl rfl (by omega) (Nat.le_of_ble_eq_true rfl) dX1_likenessOf_8 ?_
  refine wl_i2l hX (v := (costF (vC I) Q r).toInt64) dX1_likenessOf_11 rfl ?_
  refine wl_lmul hX dX1_likenessOf_12 ?_
  refine wl_lstore_n hX (lv' := [(3, .long (((costF (vC I) Q p).toInt64) * ((costF (vC I) Q r).toInt64))), (0, .ref (ad 1)), (1, .int (nI p)), (2, .int (nI r))]) rfl (by decide) dX1_likenessOf_13 ?_
  refine wl_lload_n hX 0 rfl dX1_likenessOf_14 ?_
  refine wl_lconst hX (v := 0) dX1_likenessOf_15 (by decide) ?_
  refine wl_lif_ne hX (tgt := 24) dX1_likenessOf_16 dX1_likenessOf_17 (by decide) (fun h1 => ?_) (fun h1 => ?_)
  · refine wl_lconst hX (v := 0) dX1_likenessOf_24 (by decide) ?_
    refine wl_lstore hX (lv' := [(5, .long 0), (3, .long (((costF (vC I) Q p).toInt64) * ((costF (vC I) Q r).toInt64))), (0, .ref (ad 1)), (1, .int (nI p)), (2, .int (nI r))]) rfl (by decide) dX1_likenessOf_25 ?_
    refine wl_iconst hX (v := 0) dX1_likenessOf_27 (by decide) ?_
    refine wl_istore hX (lv' := [(7, .int 0), (5, .long 0), (3, .long (((costF (vC I) Q p).toInt64) * ((costF (vC I) Q r).toInt64))), (0, .ref (ad 1)), (1, .int (nI p)), (2, .int (nI r))]) rfl (by decide) dX1_likenessOf_28 ?_
    refine wl_sub hX [3, 4, 5, 2, 1, 0] rfl ?_
    have L : ∀ (k q : Nat), q ≤ Q → Q - q < k → X 30 [(0, .ref (ad 1)), (1, .int (nI p)), (2, .int (nI r)), (3, .long (((costF (vC I) Q p).toInt64) * ((costF (vC I) Q r).toInt64))), (5, .long (dotF (vC I) q p r)), (7, .int (nI q))] [] I J := by
      intro k
      induction k with
      | zero => exact fun _  _ h => absurd h (Nat.not_lt_zero _)
      | succ k ihL =>
        intro q  hqn hqk
        refine wl_iload hX 5 rfl dX1_likenessOf_30 ?_
        refine wl_aload_n hX 0 rfl dX1_likenessOf_32 ?_
        refine gf_X1_1 hX tb_55 dX1_likenessOf_33 ?_
        refine wl_eqi (y := nI Q) hQ ?_
        refine wl_icmp_ge hX (tgt := 70) dX1_likenessOf_36 (by decide) (fun hqc => ?_) (fun hqc => ?_)
        · have hqe : q = Q := by
            have h9 := (nI_leI (by omega) (by omega)).mp hqc
            omega
          rw [hqe]
          refine wl_lload hX 4 rfl dX1_likenessOf_70 ?_
          refine wl_lload hX 4 rfl dX1_likenessOf_72 ?_
          refine wl_lmul hX dX1_likenessOf_74 ?_
          refine wl_ldc2 hX tb_456 dX1_likenessOf_75 ?_
          refine wl_lmul hX dX1_likenessOf_78 ?_
          refine wl_lload_n hX 3 rfl dX1_likenessOf_79 ?_
          refine wl_ldiv hX dX1_likenessOf_80 h1 ?_
          refine wl_l2i hX (v := ((((dotF (vC I) Q p r) * (dotF (vC I) Q p r)) * 1000) / (((costF (vC I) Q p).toInt64) * ((costF (vC I) Q r).toInt64))).toInt32) dX1_likenessOf_81 rfl ?_
          refine wl_istore hX (lv' := [(7, .int (((((dotF (vC I) Q p r) * (dotF (vC I) Q p r)) * 1000) / (((costF (vC I) Q p).toInt64) * ((costF (vC I) Q r).toInt64))).toInt32)), (0, .ref (ad 1)), (1, .int (nI p)), (2, .int (nI r)), (3, .long (((costF (vC I) Q p).toInt64) * ((costF (vC I) Q r).toInt64))), (5, .long (dotF (vC I) Q p r))]) rfl (by decide) dX1_likenessOf_82 ?_
          refine wl_lload hX 5 rfl dX1_likenessOf_84 ?_
          refine wl_lconst hX (v := 0) dX1_likenessOf_86 (by decide) ?_
          refine wl_lif_ge hX (tgt := 97) dX1_likenessOf_87 dX1_likenessOf_88 (by decide) (fun h5 => ?_) (fun h5 => ?_)
          · refine wl_iload hX 0 rfl dX1_likenessOf_97 ?_
            exact wl_ireturn hT dX1_likenessOf_99 (hx_ri (by unfold likeF; rw [if_neg h1, if_pos h5]))
          · refine wl_iload hX 0 rfl dX1_likenessOf_91 ?_
            refine wl_ineg hX dX1_likenessOf_93 ?_
            refine wl_goto hX (tgt := 99) dX1_likenessOf_94 (by decide) ?_
            exact wl_ireturn hT dX1_likenessOf_99 (hx_ri (by unfold likeF; rw [if_neg h1, if_neg h5]))
        · have hq1 : q < Q := Nat.lt_of_not_le (fun z => hqc ((nI_leI (by omega) (by omega)).mpr z))
          refine wl_lload hX 4 rfl dX1_likenessOf_39 ?_
          refine wl_aload_n hX 0 rfl dX1_likenessOf_41 ?_
          refine gf_X1_5 hX tb_64 dX1_likenessOf_42 ?_
          refine wl_iload_n hX 1 rfl dX1_likenessOf_45 ?_
          refine wl_aald4 hX p kc_8 rfl (by omega) dX1_likenessOf_46 ?_
          refine wl_iload hX 5 rfl dX1_likenessOf_47 ?_
          refine wl_iald hX q (kd_33 (by omega)) rfl (by omega) dX1_likenessOf_49 ?_
          refine wl_aload_n hX 0 rfl dX1_likenessOf_50 ?_
          refine gf_X1_5 hX tb_64 dX1_likenessOf_51 ?_
          refine wl_iload_n hX 2 rfl dX1_likenessOf_54 ?_
          refine wl_aald4 hX r kc_8 rfl (by omega) dX1_likenessOf_55 ?_
          refine wl_iload hX 5 rfl dX1_likenessOf_56 ?_
          refine wl_iald hX q (kd_33 (by omega)) rfl (by omega) dX1_likenessOf_58 ?_
          refine wl_imul hX dX1_likenessOf_59 ?_
          refine wl_i2l hX (v := ((I (33 + p) q) * (I (33 + r) q)).toInt64) dX1_likenessOf_60 rfl ?_
          refine wl_ladd hX dX1_likenessOf_61 ?_
          refine wl_lstore hX (lv' := [(5, .long ((dotF (vC I) q p r) + (((I (33 + p) q) * (I (33 + r) q)).toInt64))), (0, .ref (ad 1)), (1, .int (nI p)), (2, .int (nI r)), (3, .long (((costF (vC I) Q p).toInt64) * ((costF (vC I) Q r).toInt64))), (7, .int (nI q))]) rfl (by decide) dX1_likenessOf_62 ?_
          refine wl_iinc hX (v := nI (q + 1)) (lv' := [(7, .int (nI (q + 1))), (5, .long ((dotF (vC I) q p r) + (((I (33 + p) q) * (I (33 + r) q)).toInt64))), (0, .ref (ad 1)), (1, .int (nI p)), (2, .int (nI r)), (3, .long (((costF (vC I) Q p).toInt64) * ((costF (vC I) Q r).toInt64)))]) 5 rfl (nI_1 _) rfl (by decide) dX1_likenessOf_64 ?_
          refine wl_goto hX (tgt := 30) dX1_likenessOf_67 (by decide) ?_
          refine wl_sub hX [2, 3, 4, 5, 1, 0] rfl ?_
          exact ihL (q + 1) (by omega) (by omega)
    exact L (Q + 1) 0 (by omega) (by omega)
  · refine wl_sipush hX (v := (-2000)) dX1_likenessOf_20 (by decide) ?_
    exact wl_ireturn hT dX1_likenessOf_23 (hx_ri (by unfold likeF; rw [if_pos h1]))

set_option maxHeartbeats 1000000 in
theorem c_X1_alikeTo {l : Launch} {D : va_G} {ad : Nat → Nat} {cy : Nat → ClassId} (hi : hx_inj ad) (I : MI) (J : MJ) (p : Nat) (t : Int32) (hp : p < 12) (P : Nat) (hP : I 1 0 = nI P) (hP12 : P ≤ 12) (Q : Nat) (hQ : I 1 1 = nI Q) (hQ6 : Q ≤ 6) : Ct l D ad cy yX1_alikeTo cX1_alikeTo 5 (some .int) 2 [.ref (ad 1), .int (nI p), .int t] I J (hx_is (some (.int (alikeF (vC I) Q t p P))) I J) := by
  refine ct_start hi (by decide +kernel) (Nat.le_of_ble_eq_true rfl) (fun X hX hT => ?_)
  show X 0 [(0, .ref (ad 1)), (1, .int (nI p)), (2, .int t)] [] I J
  refine wl_iconst hX (v := 0) dX1_alikeTo_0 (by decide) ?_
  refine wl_istore_n hX (lv' := [(3, .int 0), (0, .ref (ad 1)), (1, .int (nI p)), (2, .int t)]) rfl (by decide) dX1_alikeTo_1 ?_
  refine wl_iconst hX (v := 0) dX1_alikeTo_2 (by decide) ?_
  refine wl_istore hX (lv' := [(4, .int 0), (3, .int 0), (0, .ref (ad 1)), (1, .int (nI p)), (2, .int t)]) rfl (by decide) dX1_alikeTo_3 ?_
  refine wl_sub hX [2, 3, 4, 1, 0] rfl ?_
  have L : ∀ (k r : Nat), r ≤ P → P - r < k → X 5 [(0, .ref (ad 1)), (1, .int (nI p)), (2, .int t), (3, .int (alikeF (vC I) Q t p r)), (4, .int (nI r))] [] I J := by
    intro k
    induction k with
    | zero => exact fun _  _ h => absurd h (Nat.not_lt_zero _)
    | succ k ihL =>
      intro r  hrn hrk
      refine wl_iload hX 4 rfl dX1_alikeTo_5 ?_
      refine wl_aload_n hX 0 rfl dX1_alikeTo_7 ?_
      refine gf_X1_0 hX tb_49 dX1_alikeTo_8 ?_
      refine wl_eqi (y := nI P) hP ?_
      refine wl_icmp_ge hX (tgt := 38) dX1_alikeTo_11 (by decide) (fun hrc => ?_) (fun hrc => ?_)
      · have hre : r = P := by
          have h9 := (nI_leI (by omega) (by omega)).mp hrc
          omega
        refine wl_iload_n hX 3 rfl dX1_alikeTo_38 ?_
        exact wl_ireturn hT dX1_alikeTo_39 (hx_ri (by rw [hre]))
      · have hr1 : r < P := Nat.lt_of_not_le (fun z => hrc ((nI_leI (by omega) (by omega)).mpr z))
        refine wl_aload_n hX 0 rfl dX1_alikeTo_14 ?_
        refine wl_iload_n hX 1 rfl dX1_alikeTo_15 ?_
        refine wl_iload hX 4 rfl dX1_alikeTo_16 ?_
        refine wl_cVi hX (c_X1_likenessOf hi I J p r hp (by omega) Q hQ hQ6) mv_X1_likenessOf tb_469 (by decide) rfl rfl rfl rfl (by omega) (Nat.le_of_ble_eq_true rfl) dX1_alikeTo_18 ?_
        refine wl_iload_n hX 2 rfl dX1_alikeTo_21 ?_
        have e2 : alikeF (vC I) Q t p (r + 1) = alikeF (vC I) Q t p r ||| (if likeF (vC I) Q p r < t then (0 : Int32) else 1 <<< (nI r &&& 31)) := rfl
        refine wl_icmp_lt hX (tgt := 32) dX1_alikeTo_22 (by decide) (fun h2 => ?_) (fun h2 => ?_)
        · rw [if_pos h2, i_or0] at e2
          rw [← e2]
          refine wl_iinc hX (v := nI (r + 1)) (lv' := [(4, .int (nI (r + 1))), (0, .ref (ad 1)), (1, .int (nI p)), (2, .int t), (3, .int (alikeF (vC I) Q t p (r + 1)))]) 4 rfl (nI_1 _) rfl (by decide) dX1_alikeTo_32 ?_
          refine wl_goto hX (tgt := 5) dX1_alikeTo_35 (by decide) ?_
          refine wl_sub hX [1, 2, 3, 4, 0] rfl ?_
          exact ihL (r + 1) (by omega) (by omega)
        · rw [if_neg h2] at e2
          refine wl_iload_n hX 3 rfl dX1_alikeTo_25 ?_
          refine wl_iconst hX (v := 1) dX1_alikeTo_26 (by decide) ?_
          refine wl_iload hX 4 rfl dX1_alikeTo_27 ?_
          refine wl_ishl hX dX1_alikeTo_29 ?_
          refine wl_ior hX dX1_alikeTo_30 ?_
          refine wl_eqi (y := alikeF (vC I) Q t p (r + 1)) e2.symm ?_
          refine wl_istore_n hX (lv' := [(3, .int (alikeF (vC I) Q t p (r + 1))), (0, .ref (ad 1)), (1, .int (nI p)), (2, .int t), (4, .int (nI r))]) rfl (by decide) dX1_alikeTo_31 ?_
          refine wl_iinc hX (v := nI (r + 1)) (lv' := [(4, .int (nI (r + 1))), (3, .int (alikeF (vC I) Q t p (r + 1))), (0, .ref (ad 1)), (1, .int (nI p)), (2, .int t)]) 4 rfl (nI_1 _) rfl (by decide) dX1_alikeTo_32 ?_
          refine wl_goto hX (tgt := 5) dX1_alikeTo_35 (by decide) ?_
          refine wl_sub hX [2, 3, 4, 1, 0] rfl ?_
          exact ihL (r + 1) (by omega) (by omega)
  exact L (P + 1) 0 (by omega) (by omega)

set_option maxHeartbeats 1000000 in
theorem c_X1_groupOf {l : Launch} {D : va_G} {ad : Nat → Nat} {cy : Nat → ClassId} (hi : hx_inj ad) (I : MI) (J : MJ) (p : Nat) (t : Int32) (hp : p < 12) (P : Nat) (hP : I 1 0 = nI P) (hP12 : P ≤ 12) (Q : Nat) (hQ : I 1 1 = nI Q) (hQ6 : Q ≤ 6) : Ct l D ad cy yX1_groupOf cX1_groupOf 7 (some .int) 3 [.ref (ad 1), .int (nI p), .int t] I J (hx_is (some (.int (grF (alF (vC I) Q P t) P P (1 <<< (nI p &&& 31)) 0))) I J) := by
  refine ct_start hi (by decide +kernel) (Nat.le_of_ble_eq_true rfl) (fun X hX hT => ?_)
  show X 0 [(0, .ref (ad 1)), (1, .int (nI p)), (2, .int t)] [] I J
  refine wl_iconst hX (v := 1) dX1_groupOf_0 (by decide) ?_
  refine wl_iload_n hX 1 rfl dX1_groupOf_1 ?_
  refine wl_ishl hX dX1_groupOf_2 ?_
  refine wl_istore_n hX (lv' := [(3, .int (1 <<< (nI p &&& 31))), (0, .ref (ad 1)), (1, .int (nI p)), (2, .int t)]) rfl (by decide) dX1_groupOf_3 ?_
  refine wl_iconst hX (v := 0) dX1_groupOf_4 (by decide) ?_
  refine wl_istore hX (lv' := [(4, .int 0), (3, .int (1 <<< (nI p &&& 31))), (0, .ref (ad 1)), (1, .int (nI p)), (2, .int t)]) rfl (by decide) dX1_groupOf_5 ?_
  refine wl_iconst hX (v := 0) dX1_groupOf_7 (by decide) ?_
  refine wl_istore hX (lv' := [(5, .int 0), (4, .int 0), (3, .int (1 <<< (nI p &&& 31))), (0, .ref (ad 1)), (1, .int (nI p)), (2, .int t)]) rfl (by decide) dX1_groupOf_8 ?_
  refine wl_sub hX [3, 4, 5, 2, 1, 0] rfl ?_
  obtain ⟨res, hres⟩ : ∃ z : Int32, z = grF (alF (vC I) Q P t) P P (1 <<< (nI p &&& 31)) 0 := ⟨_, rfl⟩
  rw [← hres] at hT
  have L : ∀ (m : Nat) (x b : Int32), m ≤ P → grF (alF (vC I) Q P t) P m x b = res → X 10 [(0, .ref (ad 1)), (1, .int (nI p)), (2, .int t), (3, .int x), (4, .int b), (5, .int (nI (P - m)))] [] I J := by
    intro m
    induction m with
    | zero =>
      intro x b hm hg
      refine wl_iload hX 5 rfl dX1_groupOf_10 ?_
      refine wl_aload_n hX 0 rfl dX1_groupOf_12 ?_
      refine gf_X1_0 hX tb_49 dX1_groupOf_13 ?_
      refine wl_eqi (y := nI P) hP ?_
      refine wl_icmp_ge hX (tgt := 72) dX1_groupOf_16 (by decide) (fun h9 => ?_) (fun h9 => absurd ((nI_leI (by omega) (by omega)).mpr (by omega)) h9)
      refine wl_iload_n hX 3 rfl dX1_groupOf_72 ?_
      exact wl_ireturn hT dX1_groupOf_73 (hx_ri hg)
    | succ m ih =>
      intro x b hm hg
      refine wl_iload hX 5 rfl dX1_groupOf_10 ?_
      refine wl_aload_n hX 0 rfl dX1_groupOf_12 ?_
      refine gf_X1_0 hX tb_49 dX1_groupOf_13 ?_
      refine wl_eqi (y := nI P) hP ?_
      refine wl_icmp_ge hX (tgt := 72) dX1_groupOf_16 (by decide) (fun h9 => absurd h9 (fun z => absurd ((nI_leI (by omega) (by omega)).mp z) (by omega))) (fun h9 => ?_)
      have hg2 : (if x = b then x else grF (alF (vC I) Q P t) P m (passF (alF (vC I) Q P t) P x) x) = res := hg
      refine wl_iload_n hX 3 rfl dX1_groupOf_19 ?_
      refine wl_iload hX 4 rfl dX1_groupOf_20 ?_
      refine wl_icmp_eq hX (tgt := 72) dX1_groupOf_22 (by decide) (fun h2 => ?_) (fun h2 => ?_)
      · refine wl_iload_n hX 3 rfl dX1_groupOf_72 ?_
        exact wl_ireturn hT dX1_groupOf_73 (hx_ri (by rw [← hg2, if_pos h2]))
      · rw [if_neg h2] at hg2
        refine wl_iload_n hX 3 rfl dX1_groupOf_25 ?_
        refine wl_istore hX (lv' := [(4, .int x), (0, .ref (ad 1)), (1, .int (nI p)), (2, .int t), (3, .int x), (5, .int (nI (P - (m + 1))))]) rfl (by decide) dX1_groupOf_26 ?_
        refine wl_iconst hX (v := 0) dX1_groupOf_28 (by decide) ?_
        refine wl_istore hX (lv' := [(6, .int 0), (4, .int x), (0, .ref (ad 1)), (1, .int (nI p)), (2, .int t), (3, .int x), (5, .int (nI (P - (m + 1))))]) rfl (by decide) dX1_groupOf_29 ?_
        refine wl_sub hX [2, 3, 4, 5, 1, 6, 0] rfl ?_
        have M : ∀ (k a : Nat), a ≤ P → P - a < k → X 31 [(0, .ref (ad 1)), (1, .int (nI p)), (2, .int t), (3, .int (passF (alF (vC I) Q P t) a x)), (4, .int x), (5, .int (nI (P - (m + 1)))), (6, .int (nI a))] [] I J := by
          intro k
          induction k with
          | zero => exact fun _  _ h => absurd h (Nat.not_lt_zero _)
          | succ k ihM =>
            intro a  han hak
            refine wl_iload hX 6 rfl dX1_groupOf_31 ?_
            refine wl_aload_n hX 0 rfl dX1_groupOf_33 ?_
            refine gf_X1_0 hX tb_49 dX1_groupOf_34 ?_
            refine wl_eqi (y := nI P) hP ?_
            refine wl_icmp_ge hX (tgt := 66) dX1_groupOf_37 (by decide) (fun hac => ?_) (fun hac => ?_)
            · have hae : a = P := by
                have h9 := (nI_leI (by omega) (by omega)).mp hac
                omega
              rw [hae]
              refine wl_iinc hX (v := nI (P - m)) (lv' := [(5, .int (nI (P - m))), (0, .ref (ad 1)), (1, .int (nI p)), (2, .int t), (3, .int (passF (alF (vC I) Q P t) P x)), (4, .int x), (6, .int (nI P))]) 5 rfl (by exact ((nI_1 _).trans (by rw [show P - (m + 1) + 1 = P - m by omega]))) rfl (by decide) dX1_groupOf_66 ?_
              refine wl_goto hX (tgt := 10) dX1_groupOf_69 (by decide) ?_
              refine wl_sub hX [1, 2, 3, 4, 5, 0] rfl ?_
              exact ih _ _ (by omega) hg2
            · have ha1 : a < P := Nat.lt_of_not_le (fun z => hac ((nI_leI (by omega) (by omega)).mpr z))
              have e2 : passF (alF (vC I) Q P t) (a + 1) x = if (passF (alF (vC I) Q P t) a x >>> (nI a &&& 31)) &&& 1 = 1 then passF (alF (vC I) Q P t) a x ||| alikeF (vC I) Q t a P else passF (alF (vC I) Q P t) a x := rfl
              refine wl_iload_n hX 3 rfl dX1_groupOf_40 ?_
              refine wl_iload hX 6 rfl dX1_groupOf_41 ?_
              refine wl_ishr hX dX1_groupOf_43 ?_
              refine wl_iconst hX (v := 1) dX1_groupOf_44 (by decide) ?_
              refine wl_iand hX dX1_groupOf_45 ?_
              refine wl_iconst hX (v := 1) dX1_groupOf_46 (by decide) ?_
              refine wl_icmp_ne hX (tgt := 60) dX1_groupOf_47 (by decide) (fun h5 => ?_) (fun h5 => ?_)
              · rw [if_neg h5] at e2
                rw [← e2]
                refine wl_iinc hX (v := nI (a + 1)) (lv' := [(6, .int (nI (a + 1))), (0, .ref (ad 1)), (1, .int (nI p)), (2, .int t), (3, .int (passF (alF (vC I) Q P t) (a + 1) x)), (4, .int x), (5, .int (nI (P - (m + 1))))]) 6 rfl (nI_1 _) rfl (by decide) dX1_groupOf_60 ?_
                refine wl_goto hX (tgt := 31) dX1_groupOf_63 (by decide) ?_
                refine wl_sub hX [1, 2, 3, 4, 5, 6, 0] rfl ?_
                exact ihM (a + 1) (by omega) (by omega)
              · rw [if_pos h5] at e2
                refine wl_iload_n hX 3 rfl dX1_groupOf_50 ?_
                refine wl_aload_n hX 0 rfl dX1_groupOf_51 ?_
                refine wl_iload hX 6 rfl dX1_groupOf_52 ?_
                refine wl_iload_n hX 2 rfl dX1_groupOf_54 ?_
                refine wl_cVi hX (c_X1_alikeTo hi I J a t (by omega) P hP hP12 Q hQ hQ6) mv_X1_alikeTo tb_465 (by decide) rfl rfl rfl rfl (by omega) (Nat.le_of_ble_eq_true rfl) dX1_groupOf_55 ?_
                refine wl_ior hX dX1_groupOf_58 ?_
                refine wl_eqi (y := passF (alF (vC I) Q P t) (a + 1) x) e2.symm ?_
                refine wl_istore_n hX (lv' := [(3, .int (passF (alF (vC I) Q P t) (a + 1) x)), (0, .ref (ad 1)), (1, .int (nI p)), (2, .int t), (4, .int x), (5, .int (nI (P - (m + 1)))), (6, .int (nI a))]) rfl (by decide) dX1_groupOf_59 ?_
                refine wl_iinc hX (v := nI (a + 1)) (lv' := [(6, .int (nI (a + 1))), (3, .int (passF (alF (vC I) Q P t) (a + 1) x)), (0, .ref (ad 1)), (1, .int (nI p)), (2, .int t), (4, .int x), (5, .int (nI (P - (m + 1))))]) 6 rfl (nI_1 _) rfl (by decide) dX1_groupOf_60 ?_
                refine wl_goto hX (tgt := 31) dX1_groupOf_63 (by decide) ?_
                refine wl_sub hX [2, 3, 4, 1, 5, 6, 0] rfl ?_
                exact ihM (a + 1) (by omega) (by omega)
        exact M (P + 1) 0 (by omega) (by omega)
  have h0 : nI (P - P) = 0 := by rw [Nat.sub_self]; exact nI_0
  have L0 := L P (1 <<< (nI p &&& 31)) 0 (Nat.le_refl _) hres.symm
  rw [h0] at L0
  exact L0

set_option maxHeartbeats 1000000 in
theorem c_X1_voicesInOne {l : Launch} {D : va_G} {ad : Nat → Nat} {cy : Nat → ClassId} (hi : hx_inj ad) (I : MI) (J : MJ) (p : Nat) (hp : p < 12) (Q : Nat) (hQ : I 1 1 = nI Q) (hQ6 : Q ≤ 6) : Ct l D ad cy yX1_voicesInOne cX1_voicesInOne 5 (some .long) 0 [.ref (ad 1), .int (nI p)] I J (hx_is (some (.long (codeF (vC I) p Q))) I J) := by
  refine ct_start hi (by decide +kernel) (Nat.le_of_ble_eq_true rfl) (fun X hX hT => ?_)
  show X 0 [(0, .ref (ad 1)), (1, .int (nI p))] [] I J
  refine wl_lconst hX (v := 0) dX1_voicesInOne_0 (by decide) ?_
  refine wl_lstore_n hX (lv' := [(2, .long 0), (0, .ref (ad 1)), (1, .int (nI p))]) rfl (by decide) dX1_voicesInOne_1 ?_
  refine wl_iconst hX (v := 0) dX1_voicesInOne_2 (by decide) ?_
  refine wl_istore hX (lv' := [(4, .int 0), (2, .long 0), (0, .ref (ad 1)), (1, .int (nI p))]) rfl (by decide) dX1_voicesInOne_3 ?_
  refine wl_sub hX [2, 3, 1, 0] rfl ?_
  have L : ∀ (k q : Nat), q ≤ Q → Q - q < k → X 5 [(0, .ref (ad 1)), (1, .int (nI p)), (2, .long (codeF (vC I) p q)), (4, .int (nI q))] [] I J := by
    intro k
    induction k with
    | zero => exact fun _  _ h => absurd h (Nat.not_lt_zero _)
    | succ k ihL =>
      intro q  hqn hqk
      refine wl_iload hX 3 rfl dX1_voicesInOne_5 ?_
      refine wl_aload_n hX 0 rfl dX1_voicesInOne_7 ?_
      refine gf_X1_1 hX tb_55 dX1_voicesInOne_8 ?_
      refine wl_eqi (y := nI Q) hQ ?_
      refine wl_icmp_ge hX (tgt := 41) dX1_voicesInOne_11 (by decide) (fun hqc => ?_) (fun hqc => ?_)
      · have hqe : q = Q := by
          have h9 := (nI_leI (by omega) (by omega)).mp hqc
          omega
        refine wl_lload_n hX 2 rfl dX1_voicesInOne_41 ?_
        exact wl_lreturn hT dX1_voicesInOne_42 (hx_rl (by rw [hqe]))
      · have hq1 : q < Q := Nat.lt_of_not_le (fun z => hqc ((nI_leI (by omega) (by omega)).mpr z))
        refine wl_lload_n hX 2 rfl dX1_voicesInOne_14 ?_
        refine wl_ldc2 hX tb_362 dX1_voicesInOne_15 ?_
        refine wl_lmul hX dX1_voicesInOne_18 ?_
        refine wl_aload_n hX 0 rfl dX1_voicesInOne_19 ?_
        refine gf_X1_5 hX tb_64 dX1_voicesInOne_20 ?_
        refine wl_iload_n hX 1 rfl dX1_voicesInOne_23 ?_
        refine wl_aald4 hX p kc_8 rfl (by omega) dX1_voicesInOne_24 ?_
        refine wl_iload hX 3 rfl dX1_voicesInOne_25 ?_
        refine wl_iald hX q (kd_33 (by omega)) rfl (by omega) dX1_voicesInOne_27 ?_
        refine wl_i2l hX (v := (I (33 + p) q).toInt64) dX1_voicesInOne_28 rfl ?_
        refine wl_ladd hX dX1_voicesInOne_29 ?_
        refine wl_ldc2 hX tb_363 dX1_voicesInOne_30 ?_
        refine wl_ladd hX dX1_voicesInOne_33 ?_
        refine wl_lstore_n hX (lv' := [(2, .long ((((codeF (vC I) p q) * 81) + ((I (33 + p) q).toInt64)) + 40)), (0, .ref (ad 1)), (1, .int (nI p)), (4, .int (nI q))]) rfl (by decide) dX1_voicesInOne_34 ?_
        refine wl_iinc hX (v := nI (q + 1)) (lv' := [(4, .int (nI (q + 1))), (2, .long ((((codeF (vC I) p q) * 81) + ((I (33 + p) q).toInt64)) + 40)), (0, .ref (ad 1)), (1, .int (nI p))]) 3 rfl (nI_1 _) rfl (by decide) dX1_voicesInOne_35 ?_
        refine wl_goto hX (tgt := 5) dX1_voicesInOne_38 (by decide) ?_
        refine wl_sub hX [2, 3, 1, 0] rfl ?_
        exact ihL (q + 1) (by omega) (by omega)
  exact L (Q + 1) 0 (by omega) (by omega)

set_option maxHeartbeats 1000000 in
theorem c_X1_digestPerson {l : Launch} {D : va_G} {ad : Nat → Nat} {cy : Nat → ClassId} (hi : hx_inj ad) (I : MI) (J : MJ) (z : Int64) (p : Nat) (hp : p < 12) (Q : Nat) (hQ : I 1 1 = nI Q) (hQ6 : Q ≤ 6) : Ct l D ad cy yX1_digestPerson cX1_digestPerson 7 (some .long) 0 [.ref (ad 1), .long z, .int (nI p)] I J (hx_is (some (.long (dgHF (I 6 p) (I 7 p) (vC I p) (wC I p) Q z))) I J) := by
  refine ct_start hi (by decide +kernel) (Nat.le_of_ble_eq_true rfl) (fun X hX hT => ?_)
  show X 0 [(0, .ref (ad 1)), (1, .long z), (3, .int (nI p))] [] I J
  refine wl_ldc2 hX tb_487 dX1_digestPerson_0 ?_
  refine wl_lload_n hX 1 rfl dX1_digestPerson_3 ?_
  refine wl_lmul hX dX1_digestPerson_4 ?_
  refine wl_aload_n hX 0 rfl dX1_digestPerson_5 ?_
  refine gf_X1_3 hX tb_58 dX1_digestPerson_6 ?_
  refine wl_iload_n hX 2 rfl dX1_digestPerson_9 ?_
  refine wl_iald hX p kc_6 rfl (by omega) dX1_digestPerson_10 ?_
  refine wl_i2l hX (v := (I 6 p).toInt64) dX1_digestPerson_11 rfl ?_
  refine wl_ladd hX dX1_digestPerson_12 ?_
  refine wl_lstore hX (lv' := [(4, .long ((31 * z) + ((I 6 p).toInt64))), (0, .ref (ad 1)), (1, .long z), (3, .int (nI p))]) rfl (by decide) dX1_digestPerson_13 ?_
  refine wl_ldc2 hX tb_487 dX1_digestPerson_15 ?_
  refine wl_lload hX 0 rfl dX1_digestPerson_18 ?_
  refine wl_lmul hX dX1_digestPerson_20 ?_
  refine wl_aload_n hX 1 rfl dX1_digestPerson_21 ?_
  refine gf_X1_4 hX tb_61 dX1_digestPerson_22 ?_
  refine wl_iload_n hX 3 rfl dX1_digestPerson_25 ?_
  refine wl_zald hX p kc_7 rfl (by omega) dX1_digestPerson_26 ?_
  have K : X 35 [(4, .long ((31 * z) + ((I 6 p).toInt64))), (0, .ref (ad 1)), (1, .long z), (3, .int (nI p))] [.int (onF (I 7 p)), .long (31 * ((31 * z) + ((I 6 p).toInt64)))] I J := by
    refine wl_i2l hX (v := (onF (I 7 p)).toInt64) dX1_digestPerson_35 rfl ?_
    refine wl_ladd hX dX1_digestPerson_36 ?_
    refine wl_lstore hX (lv' := [(4, .long ((31 * ((31 * z) + ((I 6 p).toInt64))) + ((onF (I 7 p)).toInt64))), (0, .ref (ad 1)), (1, .long z), (3, .int (nI p))]) rfl (by decide) dX1_digestPerson_37 ?_
    refine wl_iconst hX (v := 0) dX1_digestPerson_39 (by decide) ?_
    refine wl_istore hX (lv' := [(6, .int 0), (4, .long ((31 * ((31 * z) + ((I 6 p).toInt64))) + ((onF (I 7 p)).toInt64))), (0, .ref (ad 1)), (1, .long z), (3, .int (nI p))]) rfl (by decide) dX1_digestPerson_40 ?_
    refine wl_sub hX [2, 3, 4, 1, 0] rfl ?_
    have L : ∀ (k q : Nat), q ≤ Q → Q - q < k → X 42 [(0, .ref (ad 1)), (1, .long z), (3, .int (nI p)), (4, .long (chF (vC I p) q (31 * (31 * z + (I 6 p).toInt64) + (onF (I 7 p)).toInt64))), (6, .int (nI q))] [] I J := by
      intro k
      induction k with
      | zero => exact fun _  _ h => absurd h (Nat.not_lt_zero _)
      | succ k ihL =>
        intro q  hqn hqk
        refine wl_iload hX 4 rfl dX1_digestPerson_42 ?_
        refine wl_aload_n hX 0 rfl dX1_digestPerson_44 ?_
        refine gf_X1_1 hX tb_55 dX1_digestPerson_45 ?_
        refine wl_eqi (y := nI Q) hQ ?_
        refine wl_icmp_ge hX (tgt := 76) dX1_digestPerson_48 (by decide) (fun hqc => ?_) (fun hqc => ?_)
        · have hqe : q = Q := by
            have h9 := (nI_leI (by omega) (by omega)).mp hqc
            omega
          rw [hqe]
          refine wl_iconst hX (v := 0) dX1_digestPerson_76 (by decide) ?_
          refine wl_istore hX (lv' := [(6, .int 0), (0, .ref (ad 1)), (1, .long z), (3, .int (nI p)), (4, .long (chF (vC I p) Q (31 * (31 * z + (I 6 p).toInt64) + (onF (I 7 p)).toInt64)))]) rfl (by decide) dX1_digestPerson_77 ?_
          refine wl_sub hX [1, 2, 3, 4, 0] rfl ?_
          have M : ∀ (k r : Nat), r ≤ Q → Q - r < k → X 79 [(0, .ref (ad 1)), (1, .long z), (3, .int (nI p)), (4, .long (chF (wC I p) r (chF (vC I p) Q (31 * (31 * z + (I 6 p).toInt64) + (onF (I 7 p)).toInt64)))), (6, .int (nI r))] [] I J := by
            intro k
            induction k with
            | zero => exact fun _  _ h => absurd h (Nat.not_lt_zero _)
            | succ k ihM =>
              intro r  hrn hrk
              refine wl_iload hX 4 rfl dX1_digestPerson_79 ?_
              refine wl_aload_n hX 0 rfl dX1_digestPerson_81 ?_
              refine gf_X1_1 hX tb_55 dX1_digestPerson_82 ?_
              refine wl_eqi (y := nI Q) hQ ?_
              refine wl_icmp_ge hX (tgt := 113) dX1_digestPerson_85 (by decide) (fun hrc => ?_) (fun hrc => ?_)
              · have hre : r = Q := by
                  have h9 := (nI_leI (by omega) (by omega)).mp hrc
                  omega
                refine wl_lload hX 3 rfl dX1_digestPerson_113 ?_
                exact wl_lreturn hT dX1_digestPerson_115 (hx_rl (by rw [hre]; rfl))
              · have hr1 : r < Q := Nat.lt_of_not_le (fun z => hrc ((nI_leI (by omega) (by omega)).mpr z))
                refine wl_ldc2 hX tb_487 dX1_digestPerson_88 ?_
                refine wl_lload hX 3 rfl dX1_digestPerson_91 ?_
                refine wl_lmul hX dX1_digestPerson_93 ?_
                refine wl_aload_n hX 0 rfl dX1_digestPerson_94 ?_
                refine gf_X1_6 hX tb_67 dX1_digestPerson_95 ?_
                refine wl_iload_n hX 2 rfl dX1_digestPerson_98 ?_
                refine wl_aald4 hX p kc_9 rfl (by omega) dX1_digestPerson_99 ?_
                refine wl_iload hX 4 rfl dX1_digestPerson_100 ?_
                refine wl_iald hX r (kd_45 (by omega)) rfl (by omega) dX1_digestPerson_102 ?_
                refine wl_i2l hX (v := (I (45 + p) r).toInt64) dX1_digestPerson_103 rfl ?_
                refine wl_ladd hX dX1_digestPerson_104 ?_
                refine wl_lstore hX (lv' := [(4, .long ((31 * (chF (wC I p) r (chF (vC I p) Q (31 * (31 * z + (I 6 p).toInt64) + (onF (I 7 p)).toInt64)))) + ((I (45 + p) r).toInt64))), (0, .ref (ad 1)), (1, .long z), (3, .int (nI p)), (6, .int (nI r))]) rfl (by decide) dX1_digestPerson_105 ?_
                refine wl_iinc hX (v := nI (r + 1)) (lv' := [(6, .int (nI (r + 1))), (4, .long ((31 * (chF (wC I p) r (chF (vC I p) Q (31 * (31 * z + (I 6 p).toInt64) + (onF (I 7 p)).toInt64)))) + ((I (45 + p) r).toInt64))), (0, .ref (ad 1)), (1, .long z), (3, .int (nI p))]) 4 rfl (nI_1 _) rfl (by decide) dX1_digestPerson_107 ?_
                refine wl_goto hX (tgt := 79) dX1_digestPerson_110 (by decide) ?_
                refine wl_sub hX [2, 3, 4, 1, 0] rfl ?_
                exact ihM (r + 1) (by omega) (by omega)
          exact M (Q + 1) 0 (by omega) (by omega)
        · have hq1 : q < Q := Nat.lt_of_not_le (fun z => hqc ((nI_leI (by omega) (by omega)).mpr z))
          refine wl_ldc2 hX tb_487 dX1_digestPerson_51 ?_
          refine wl_lload hX 3 rfl dX1_digestPerson_54 ?_
          refine wl_lmul hX dX1_digestPerson_56 ?_
          refine wl_aload_n hX 0 rfl dX1_digestPerson_57 ?_
          refine gf_X1_5 hX tb_64 dX1_digestPerson_58 ?_
          refine wl_iload_n hX 2 rfl dX1_digestPerson_61 ?_
          refine wl_aald4 hX p kc_8 rfl (by omega) dX1_digestPerson_62 ?_
          refine wl_iload hX 4 rfl dX1_digestPerson_63 ?_
          refine wl_iald hX q (kd_33 (by omega)) rfl (by omega) dX1_digestPerson_65 ?_
          refine wl_i2l hX (v := (I (33 + p) q).toInt64) dX1_digestPerson_66 rfl ?_
          refine wl_ladd hX dX1_digestPerson_67 ?_
          refine wl_lstore hX (lv' := [(4, .long ((31 * (chF (vC I p) q (31 * (31 * z + (I 6 p).toInt64) + (onF (I 7 p)).toInt64))) + ((I (33 + p) q).toInt64))), (0, .ref (ad 1)), (1, .long z), (3, .int (nI p)), (6, .int (nI q))]) rfl (by decide) dX1_digestPerson_68 ?_
          refine wl_iinc hX (v := nI (q + 1)) (lv' := [(6, .int (nI (q + 1))), (4, .long ((31 * (chF (vC I p) q (31 * (31 * z + (I 6 p).toInt64) + (onF (I 7 p)).toInt64))) + ((I (33 + p) q).toInt64))), (0, .ref (ad 1)), (1, .long z), (3, .int (nI p))]) 4 rfl (nI_1 _) rfl (by decide) dX1_digestPerson_70 ?_
          refine wl_goto hX (tgt := 42) dX1_digestPerson_73 (by decide) ?_
          refine wl_sub hX [2, 3, 4, 1, 0] rfl ?_
          exact ihL (q + 1) (by omega) (by omega)
    exact L (Q + 1) 0 (by omega) (by omega)
  refine wl_if_eq hX (tgt := 34) dX1_digestPerson_27 (by decide) (fun h1 => ?_) (fun h1 => ?_)
  · refine wl_iconst hX (v := 0) dX1_digestPerson_34 (by decide) ?_
    refine wl_eqi (y := onF (I 7 p)) (by unfold onF; rw [if_pos h1]) ?_
    exact K
  · refine wl_iconst hX (v := 1) dX1_digestPerson_30 (by decide) ?_
    refine wl_goto hX (tgt := 35) dX1_digestPerson_31 (by decide) ?_
    refine wl_eqi (y := onF (I 7 p)) (by unfold onF; rw [if_neg h1]) ?_
    exact K
end
section
/-! the fund -/
theorem hx_ne0 {x : Int64} (h : 0 < x) : ¬ x = 0 := fun e => by
  rw [e] at h
  exact absurd h (by decide)
set_option maxHeartbeats 400000 in
theorem c_X0_hasProject {l : Launch} {D : va_G} {ad : Nat → Nat} {cy : Nat → ClassId} (hi : hx_inj ad) (I : MI) (J : MJ) (x : Int32) : Ct l D ad cy yX0_hasProject cX0_hasProject 2 (some .boolean) 0 [.ref (ad 4), .int x] I J (hx_is (some (.int (inF x (I 4 1)))) I J) := by
  refine ct_start hi (by decide +kernel) (Nat.le_of_ble_eq_true rfl) (fun X hX hT => ?_)
  show X 0 [(0, .ref (ad 4)), (1, .int x)] [] I J
  refine wl_iload_n hX 1 rfl dX0_hasProject_0 ?_
  refine wl_if_lt hX (tgt := 16) dX0_hasProject_1 (by decide) (fun h1 => ?_) (fun h1 => ?_)
  · refine wl_iconst hX (v := 0) dX0_hasProject_16 (by decide) ?_
    exact wl_zreturn hT dX0_hasProject_17 (by decide) (hx_ri (if_neg (fun h => by rw [Int32.lt_iff_toInt_lt] at h1; have h2 := Int32.le_iff_toInt_le.mp h.1; omega)).symm)
  · refine wl_iload_n hX 1 rfl dX0_hasProject_4 ?_
    refine wl_aload_n hX 0 rfl dX0_hasProject_5 ?_
    refine gf_X0_1 hX tb_171 dX0_hasProject_6 ?_
    refine wl_icmp_ge hX (tgt := 16) dX0_hasProject_9 (by decide) (fun h2 => ?_) (fun h2 => ?_)
    · refine wl_iconst hX (v := 0) dX0_hasProject_16 (by decide) ?_
      exact wl_zreturn hT dX0_hasProject_17 (by decide) (hx_ri (if_neg (fun h => by have h3 := Int32.le_iff_toInt_le.mp h2; have h4 := Int32.lt_iff_toInt_lt.mp h.2; omega)).symm)
    · refine wl_iconst hX (v := 1) dX0_hasProject_12 (by decide) ?_
      refine wl_goto hX (tgt := 17) dX0_hasProject_13 (by decide) ?_
      exact wl_zreturn hT dX0_hasProject_17 (by decide) (hx_ri (if_pos ⟨by rw [Int32.le_iff_toInt_le]; rw [Int32.lt_iff_toInt_lt] at h1; omega, by rw [Int32.lt_iff_toInt_lt]; rw [Int32.le_iff_toInt_le] at h2; omega⟩).symm)

set_option maxHeartbeats 400000 in
theorem c_X0_fineProduct {l : Launch} {D : va_G} {ad : Nat → Nat} {cy : Nat → ClassId} (hi : hx_inj ad) (I : MI) (J : MJ) (p r j : Nat) (hp : p < 12) (hr : r < 12) (hj : j < 6) : Ct l D ad cy yX0_fineProduct cX0_fineProduct 4 (some .long) 0 [.ref (ad 4), .int (nI p), .int (nI r), .int (nI j)] I J (hx_is (some (.long (fineF (gC I) p r j))) I J) := by
  refine ct_start hi (by decide +kernel) (Nat.le_of_ble_eq_true rfl) (fun X hX hT => ?_)
  show X 0 [(0, .ref (ad 4)), (1, .int (nI p)), (2, .int (nI r)), (3, .int (nI j))] [] I J
  refine wl_ldc2 hX tb_414 dX0_fineProduct_0 ?_
  refine wl_aload_n hX 0 rfl dX0_fineProduct_3 ?_
  refine gf_X0_2 hX tb_173 dX0_fineProduct_4 ?_
  refine wl_iload_n hX 1 rfl dX0_fineProduct_7 ?_
  refine wl_aald4 hX p kc_17 rfl (by omega) dX0_fineProduct_8 ?_
  refine wl_iload_n hX 3 rfl dX0_fineProduct_9 ?_
  refine wl_iald hX j (kd_100 (by omega)) rfl (by omega) dX0_fineProduct_10 ?_
  refine wl_i2l hX (v := (I (100 + p) j).toInt64) dX0_fineProduct_11 rfl ?_
  refine wl_lmul hX dX0_fineProduct_12 ?_
  refine wl_aload_n hX 0 rfl dX0_fineProduct_13 ?_
  refine gf_X0_2 hX tb_173 dX0_fineProduct_14 ?_
  refine wl_iload_n hX 2 rfl dX0_fineProduct_17 ?_
  refine wl_aald4 hX r kc_17 rfl (by omega) dX0_fineProduct_18 ?_
  refine wl_iload_n hX 3 rfl dX0_fineProduct_19 ?_
  refine wl_iald hX j (kd_100 (by omega)) rfl (by omega) dX0_fineProduct_20 ?_
  refine wl_i2l hX (v := (I (100 + r) j).toInt64) dX0_fineProduct_21 rfl ?_
  refine wl_lmul hX dX0_fineProduct_22 ?_
  exact wl_lreturn hT dX0_fineProduct_23 (hx_rl rfl)

set_option maxHeartbeats 400000 in
theorem c_X0_root {l : Launch} {D : va_G} {ad : Nat → Nat} {cy : Nat → ClassId} (hi : hx_inj ad) (I : MI) (J : MJ) (x : Int64) : Ct l D ad cy yX0_root cX0_root 6 (some .long) 0 [.long x] I J (hx_is (some (.long (rootF x))) I J) := by
  refine ct_start hi (by decide +kernel) (Nat.le_of_ble_eq_true rfl) (fun X hX hT => ?_)
  show X 0 [(0, .long x)] [] I J
  obtain ⟨res, hres⟩ : ∃ z : Int64, z = rootF x := ⟨_, rfl⟩
  rw [← hres] at hT
  have L : ∀ (k : Nat) (r : Int64), k ≤ 29 → rtF x k r = res → X 7 [(0, .long x), (2, .long r), (4, .long (bitL k))] [] I J := by
    intro k
    induction k with
    | zero =>
      intro r hk hg
      refine wl_lload hX 2 rfl dX0_root_7 ?_
      refine wl_lconst hX (v := 0) dX0_root_9 (by decide) ?_
      refine wl_lif_le hX (tgt := 42) dX0_root_10 dX0_root_11 (by decide) (fun h9 => ?_) (fun h9 => absurd (by decide) h9)
      refine wl_lload_n hX 1 rfl dX0_root_42 ?_
      exact wl_lreturn hT dX0_root_43 (hx_rl hg)
    | succ k ih =>
      intro r hk hg
      have hg2 : rtF x k (if x < (r + bitL (k + 1)) * (r + bitL (k + 1)) then r else r + bitL (k + 1)) = res := hg
      refine wl_lload hX 2 rfl dX0_root_7 ?_
      refine wl_lconst hX (v := 0) dX0_root_9 (by decide) ?_
      refine wl_lif_le hX (tgt := 42) dX0_root_10 dX0_root_11 (by decide) (fun h9 => absurd h9 (bitL_pos k (by omega))) (fun h9 => ?_)
      refine wl_lload_n hX 1 rfl dX0_root_14 ?_
      refine wl_lload hX 2 rfl dX0_root_15 ?_
      refine wl_ladd hX dX0_root_17 ?_
      refine wl_lload_n hX 1 rfl dX0_root_18 ?_
      refine wl_lload hX 2 rfl dX0_root_19 ?_
      refine wl_ladd hX dX0_root_21 ?_
      refine wl_lmul hX dX0_root_22 ?_
      refine wl_lload_n hX 0 rfl dX0_root_23 ?_
      refine wl_lif_gt hX (tgt := 33) dX0_root_24 dX0_root_25 (by decide) (fun h2 => ?_) (fun h2 => ?_)
      · rw [if_pos h2] at hg2
        refine wl_lload hX 2 rfl dX0_root_33 ?_
        refine wl_iconst hX (v := 1) dX0_root_35 (by decide) ?_
        refine wl_lshr hX (v := bitL k) dX0_root_36 (bitL_shr k (by omega)) ?_
        refine wl_lstore hX (lv' := [(4, .long (bitL k)), (0, .long x), (2, .long r)]) rfl (by decide) dX0_root_37 ?_
        refine wl_goto hX (tgt := 7) dX0_root_39 (by decide) ?_
        refine wl_sub hX [1, 2, 0] rfl ?_
        exact ih _ (by omega) hg2
      · rw [if_neg h2] at hg2
        refine wl_lload_n hX 1 rfl dX0_root_28 ?_
        refine wl_lload hX 2 rfl dX0_root_29 ?_
        refine wl_ladd hX dX0_root_31 ?_
        refine wl_lstore_n hX (lv' := [(2, .long (r + (bitL (k + 1)))), (0, .long x), (4, .long (bitL (k + 1)))]) rfl (by decide) dX0_root_32 ?_
        refine wl_lload hX 2 rfl dX0_root_33 ?_
        refine wl_iconst hX (v := 1) dX0_root_35 (by decide) ?_
        refine wl_lshr hX (v := bitL k) dX0_root_36 (bitL_shr k (by omega)) ?_
        refine wl_lstore hX (lv' := [(4, .long (bitL k)), (2, .long (r + (bitL (k + 1)))), (0, .long x)]) rfl (by decide) dX0_root_37 ?_
        refine wl_goto hX (tgt := 7) dX0_root_39 (by decide) ?_
        refine wl_sub hX [2, 1, 0] rfl ?_
        exact ih _ (by omega) hg2
  refine wl_lconst hX (v := 0) dX0_root_0 (by decide) ?_
  refine wl_lstore_n hX (lv' := [(2, .long 0), (0, .long x)]) rfl (by decide) dX0_root_1 ?_
  refine wl_ldc2 hX tb_418 dX0_root_2 ?_
  refine wl_lstore hX (lv' := [(4, .long 268435456), (2, .long 0), (0, .long x)]) rfl (by decide) dX0_root_5 ?_
  refine wl_sub hX [2, 1, 0] rfl ?_
  have e0 : (268435456 : Int64) = bitL 29 := by decide
  rw [e0]
  exact L 29 0 (by omega) hres.symm

set_option maxHeartbeats 400000 in
theorem c_X0_rootAbove {l : Launch} {D : va_G} {ad : Nat → Nat} {cy : Nat → ClassId} (hi : hx_inj ad) (I : MI) (J : MJ) (x : Int64) : Ct l D ad cy yX0_rootAbove cX0_rootAbove 4 (some .long) 1 [.long x] I J (hx_is (some (.long (rootAF x))) I J) := by
  refine ct_start hi (by decide +kernel) (Nat.le_of_ble_eq_true rfl) (fun X hX hT => ?_)
  show X 0 [(0, .long x)] [] I J
  refine wl_lload_n hX 0 rfl dX0_rootAbove_0 ?_
  refine wl_cSl hX (c_X0_root hi I J x) mv_X0_root tb_415 rfl rfl (by omega) (Nat.le_of_ble_eq_true rfl) dX0_rootAbove_1 ?_
  refine wl_lstore_n hX (lv' := [(2, .long (rootF x)), (0, .long x)]) rfl (by decide) dX0_rootAbove_4 ?_
  refine wl_lload_n hX 0 rfl dX0_rootAbove_5 ?_
  refine wl_lload_n hX 0 rfl dX0_rootAbove_6 ?_
  refine wl_lmul hX dX0_rootAbove_7 ?_
  refine wl_lload_n hX 1 rfl dX0_rootAbove_8 ?_
  refine wl_lif_ne hX (tgt := 17) dX0_rootAbove_9 dX0_rootAbove_10 (by decide) (fun h1 => ?_) (fun h1 => ?_)
  · refine wl_lload_n hX 0 rfl dX0_rootAbove_17 ?_
    refine wl_lconst hX (v := 1) dX0_rootAbove_18 (by decide) ?_
    refine wl_ladd hX dX0_rootAbove_19 ?_
    exact wl_lreturn hT dX0_rootAbove_20 (hx_rl (by unfold rootAF; rw [if_neg h1]))
  · refine wl_lload_n hX 0 rfl dX0_rootAbove_13 ?_
    refine wl_goto hX (tgt := 20) dX0_rootAbove_14 (by decide) ?_
    exact wl_lreturn hT dX0_rootAbove_20 (hx_rl (by unfold rootAF; rw [if_pos h1]))

set_option maxHeartbeats 400000 in
theorem c_X0_matchedLow {l : Launch} {D : va_G} {ad : Nat → Nat} {cy : Nat → ClassId} (hi : hx_inj ad) (I : MI) (J : MJ) (j : Nat) (hj : j < 6) (P : Nat) (hP : I 1 0 = nI P) (hP12 : P ≤ 12) : Ct l D ad cy yX0_matchedLow cX0_matchedLow 6 (some .long) 1 [.ref (ad 4), .int (nI j)] I J (hx_is (some (.long (mLowF (gC I) (bC I) P j))) I J) := by
  refine ct_start hi (by decide +kernel) (Nat.le_of_ble_eq_true rfl) (fun X hX hT => ?_)
  show X 0 [(0, .ref (ad 4)), (1, .int (nI j))] [] I J
  refine wl_lconst hX (v := 0) dX0_matchedLow_0 (by decide) ?_
  refine wl_lstore_n hX (lv' := [(2, .long 0), (0, .ref (ad 4)), (1, .int (nI j))]) rfl (by decide) dX0_matchedLow_1 ?_
  refine wl_iconst hX (v := 0) dX0_matchedLow_2 (by decide) ?_
  refine wl_istore hX (lv' := [(4, .int 0), (2, .long 0), (0, .ref (ad 4)), (1, .int (nI j))]) rfl (by decide) dX0_matchedLow_3 ?_
  refine wl_sub hX [2, 3, 1, 0] rfl ?_
  have L : ∀ (k p : Nat), p ≤ P → P - p < k → X 5 [(0, .ref (ad 4)), (1, .int (nI j)), (2, .long (triF (lowF (gC I) (bC I) j) p)), (4, .int (nI p))] [] I J := by
    intro k
    induction k with
    | zero => exact fun _  _ h => absurd h (Nat.not_lt_zero _)
    | succ k ihL =>
      intro p  hpn hpk
      refine wl_iload hX 3 rfl dX0_matchedLow_5 ?_
      refine wl_aload_n hX 0 rfl dX0_matchedLow_7 ?_
      refine gf_X0_0 hX tb_170 dX0_matchedLow_8 ?_
      refine gf_X1_0 hX tb_52 dX0_matchedLow_11 ?_
      refine wl_eqi (y := nI P) hP ?_
      refine wl_icmp_ge hX (tgt := 66) dX0_matchedLow_14 (by decide) (fun hpc => ?_) (fun hpc => ?_)
      · have hpe : p = P := by
          have h9 := (nI_leI (by omega) (by omega)).mp hpc
          omega
        refine wl_ldc2 hX tb_419 dX0_matchedLow_66 ?_
        refine wl_lload_n hX 2 rfl dX0_matchedLow_69 ?_
        refine wl_lmul hX dX0_matchedLow_70 ?_
        refine wl_ldc2 hX tb_420 dX0_matchedLow_71 ?_
        refine wl_ldiv hX dX0_matchedLow_74 (by decide) ?_
        exact wl_lreturn hT dX0_matchedLow_75 (hx_rl (by rw [hpe]; rfl))
      · have hp1 : p < P := Nat.lt_of_not_le (fun z => hpc ((nI_leI (by omega) (by omega)).mpr z))
        refine wl_iconst hX (v := 0) dX0_matchedLow_17 (by decide) ?_
        refine wl_istore hX (lv' := [(5, .int 0), (0, .ref (ad 4)), (1, .int (nI j)), (2, .long (triF (lowF (gC I) (bC I) j) p)), (4, .int (nI p))]) rfl (by decide) dX0_matchedLow_18 ?_
        refine wl_sub hX [1, 2, 3, 4, 0] rfl ?_
        have M : ∀ (k r : Nat), r ≤ p → p - r < k → X 20 [(0, .ref (ad 4)), (1, .int (nI j)), (2, .long (accF ((lowF (gC I) (bC I) j) p) r (triF (lowF (gC I) (bC I) j) p))), (4, .int (nI p)), (5, .int (nI r))] [] I J := by
          intro k
          induction k with
          | zero => exact fun _  _ h => absurd h (Nat.not_lt_zero _)
          | succ k ihM =>
            intro r  hrn hrk
            refine wl_iload hX 4 rfl dX0_matchedLow_20 ?_
            refine wl_iload hX 3 rfl dX0_matchedLow_22 ?_
            refine wl_icmp_ge hX (tgt := 60) dX0_matchedLow_24 (by decide) (fun hrc => ?_) (fun hrc => ?_)
            · have hre : r = p := by
                have h9 := (nI_leI (by omega) (by omega)).mp hrc
                omega
              rw [hre]
              refine wl_iinc hX (v := nI (p + 1)) (lv' := [(4, .int (nI (p + 1))), (0, .ref (ad 4)), (1, .int (nI j)), (2, .long (accF ((lowF (gC I) (bC I) j) p) p (triF (lowF (gC I) (bC I) j) p))), (5, .int (nI p))]) 3 rfl (nI_1 _) rfl (by decide) dX0_matchedLow_60 ?_
              refine wl_goto hX (tgt := 5) dX0_matchedLow_63 (by decide) ?_
              refine wl_sub hX [1, 2, 3, 0] rfl ?_
              exact ihL (p + 1) (by omega) (by omega)
            · have hr1 : r < p := Nat.lt_of_not_le (fun z => hrc ((nI_leI (by omega) (by omega)).mpr z))
              refine wl_lload_n hX 2 rfl dX0_matchedLow_27 ?_
              refine wl_aload_n hX 0 rfl dX0_matchedLow_28 ?_
              refine gf_X0_3 hX tb_175 dX0_matchedLow_29 ?_
              refine wl_iload hX 3 rfl dX0_matchedLow_32 ?_
              refine wl_aald4 hX p kc_18 rfl (by omega) dX0_matchedLow_34 ?_
              refine wl_iload hX 4 rfl dX0_matchedLow_35 ?_
              refine wl_iald hX r (kd_112 (by omega)) rfl (by omega) dX0_matchedLow_37 ?_
              refine wl_i2l hX (v := (I (112 + p) r).toInt64) dX0_matchedLow_38 rfl ?_
              refine wl_aload_n hX 0 rfl dX0_matchedLow_39 ?_
              refine wl_iload hX 3 rfl dX0_matchedLow_40 ?_
              refine wl_iload hX 4 rfl dX0_matchedLow_42 ?_
              refine wl_iload_n hX 1 rfl dX0_matchedLow_44 ?_
              refine wl_cVl hX (c_X0_fineProduct hi I J p r j (by omega) (by omega) hj) mv_X0_fineProduct tb_410 (by decide) rfl rfl rfl rfl (by omega) (Nat.le_of_ble_eq_true rfl) dX0_matchedLow_45 ?_
              refine wl_cSl hX (c_X0_root hi I J (fineF (gC I) p r j)) mv_X0_root tb_415 rfl rfl (by omega) (Nat.le_of_ble_eq_true rfl) dX0_matchedLow_48 ?_
              refine wl_lmul hX dX0_matchedLow_51 ?_
              refine wl_ladd hX dX0_matchedLow_52 ?_
              refine wl_lstore_n hX (lv' := [(2, .long ((accF ((lowF (gC I) (bC I) j) p) r (triF (lowF (gC I) (bC I) j) p)) + (((I (112 + p) r).toInt64) * (rootF (fineF (gC I) p r j))))), (0, .ref (ad 4)), (1, .int (nI j)), (4, .int (nI p)), (5, .int (nI r))]) rfl (by decide) dX0_matchedLow_53 ?_
              refine wl_iinc hX (v := nI (r + 1)) (lv' := [(5, .int (nI (r + 1))), (2, .long ((accF ((lowF (gC I) (bC I) j) p) r (triF (lowF (gC I) (bC I) j) p)) + (((I (112 + p) r).toInt64) * (rootF (fineF (gC I) p r j))))), (0, .ref (ad 4)), (1, .int (nI j)), (4, .int (nI p))]) 4 rfl (nI_1 _) rfl (by decide) dX0_matchedLow_54 ?_
              refine wl_goto hX (tgt := 20) dX0_matchedLow_57 (by decide) ?_
              refine wl_sub hX [2, 3, 1, 4, 0] rfl ?_
              exact ihM (r + 1) (by omega) (by omega)
        exact M (p + 1) 0 (by omega) (by omega)
  exact L (P + 1) 0 (by omega) (by omega)

set_option maxHeartbeats 400000 in
theorem c_X0_matchedUndamped {l : Launch} {D : va_G} {ad : Nat → Nat} {cy : Nat → ClassId} (hi : hx_inj ad) (I : MI) (J : MJ) (j : Nat) (hj : j < 6) (P : Nat) (hP : I 1 0 = nI P) (hP12 : P ≤ 12) : Ct l D ad cy yX0_matchedUndamped cX0_matchedUndamped 6 (some .long) 1 [.ref (ad 4), .int (nI j)] I J (hx_is (some (.long (mWholeF (gC I) P j))) I J) := by
  refine ct_start hi (by decide +kernel) (Nat.le_of_ble_eq_true rfl) (fun X hX hT => ?_)
  show X 0 [(0, .ref (ad 4)), (1, .int (nI j))] [] I J
  refine wl_lconst hX (v := 0) dX0_matchedUndamped_0 (by decide) ?_
  refine wl_lstore_n hX (lv' := [(2, .long 0), (0, .ref (ad 4)), (1, .int (nI j))]) rfl (by decide) dX0_matchedUndamped_1 ?_
  refine wl_iconst hX (v := 0) dX0_matchedUndamped_2 (by decide) ?_
  refine wl_istore hX (lv' := [(4, .int 0), (2, .long 0), (0, .ref (ad 4)), (1, .int (nI j))]) rfl (by decide) dX0_matchedUndamped_3 ?_
  refine wl_sub hX [2, 3, 1, 0] rfl ?_
  have L : ∀ (k p : Nat), p ≤ P → P - p < k → X 5 [(0, .ref (ad 4)), (1, .int (nI j)), (2, .long (triF (wholeF (gC I) j) p)), (4, .int (nI p))] [] I J := by
    intro k
    induction k with
    | zero => exact fun _  _ h => absurd h (Nat.not_lt_zero _)
    | succ k ihL =>
      intro p  hpn hpk
      refine wl_iload hX 3 rfl dX0_matchedUndamped_5 ?_
      refine wl_aload_n hX 0 rfl dX0_matchedUndamped_7 ?_
      refine gf_X0_0 hX tb_170 dX0_matchedUndamped_8 ?_
      refine gf_X1_0 hX tb_52 dX0_matchedUndamped_11 ?_
      refine wl_eqi (y := nI P) hP ?_
      refine wl_icmp_ge hX (tgt := 58) dX0_matchedUndamped_14 (by decide) (fun hpc => ?_) (fun hpc => ?_)
      · have hpe : p = P := by
          have h9 := (nI_leI (by omega) (by omega)).mp hpc
          omega
        refine wl_ldc2 hX tb_419 dX0_matchedUndamped_58 ?_
        refine wl_lload_n hX 2 rfl dX0_matchedUndamped_61 ?_
        refine wl_lmul hX dX0_matchedUndamped_62 ?_
        refine wl_ldc2 hX tb_420 dX0_matchedUndamped_63 ?_
        refine wl_ldiv hX dX0_matchedUndamped_66 (by decide) ?_
        exact wl_lreturn hT dX0_matchedUndamped_67 (hx_rl (by rw [hpe]; rfl))
      · have hp1 : p < P := Nat.lt_of_not_le (fun z => hpc ((nI_leI (by omega) (by omega)).mpr z))
        refine wl_iconst hX (v := 0) dX0_matchedUndamped_17 (by decide) ?_
        refine wl_istore hX (lv' := [(5, .int 0), (0, .ref (ad 4)), (1, .int (nI j)), (2, .long (triF (wholeF (gC I) j) p)), (4, .int (nI p))]) rfl (by decide) dX0_matchedUndamped_18 ?_
        refine wl_sub hX [1, 2, 3, 4, 0] rfl ?_
        have M : ∀ (k r : Nat), r ≤ p → p - r < k → X 20 [(0, .ref (ad 4)), (1, .int (nI j)), (2, .long (accF ((wholeF (gC I) j) p) r (triF (wholeF (gC I) j) p))), (4, .int (nI p)), (5, .int (nI r))] [] I J := by
          intro k
          induction k with
          | zero => exact fun _  _ h => absurd h (Nat.not_lt_zero _)
          | succ k ihM =>
            intro r  hrn hrk
            refine wl_iload hX 4 rfl dX0_matchedUndamped_20 ?_
            refine wl_iload hX 3 rfl dX0_matchedUndamped_22 ?_
            refine wl_icmp_ge hX (tgt := 52) dX0_matchedUndamped_24 (by decide) (fun hrc => ?_) (fun hrc => ?_)
            · have hre : r = p := by
                have h9 := (nI_leI (by omega) (by omega)).mp hrc
                omega
              rw [hre]
              refine wl_iinc hX (v := nI (p + 1)) (lv' := [(4, .int (nI (p + 1))), (0, .ref (ad 4)), (1, .int (nI j)), (2, .long (accF ((wholeF (gC I) j) p) p (triF (wholeF (gC I) j) p))), (5, .int (nI p))]) 3 rfl (nI_1 _) rfl (by decide) dX0_matchedUndamped_52 ?_
              refine wl_goto hX (tgt := 5) dX0_matchedUndamped_55 (by decide) ?_
              refine wl_sub hX [1, 2, 3, 0] rfl ?_
              exact ihL (p + 1) (by omega) (by omega)
            · have hr1 : r < p := Nat.lt_of_not_le (fun z => hrc ((nI_leI (by omega) (by omega)).mpr z))
              refine wl_lload_n hX 2 rfl dX0_matchedUndamped_27 ?_
              refine wl_ldc2 hX tb_446 dX0_matchedUndamped_28 ?_
              refine wl_aload_n hX 0 rfl dX0_matchedUndamped_31 ?_
              refine wl_iload hX 3 rfl dX0_matchedUndamped_32 ?_
              refine wl_iload hX 4 rfl dX0_matchedUndamped_34 ?_
              refine wl_iload_n hX 1 rfl dX0_matchedUndamped_36 ?_
              refine wl_cVl hX (c_X0_fineProduct hi I J p r j (by omega) (by omega) hj) mv_X0_fineProduct tb_410 (by decide) rfl rfl rfl rfl (by omega) (Nat.le_of_ble_eq_true rfl) dX0_matchedUndamped_37 ?_
              refine wl_cSl hX (c_X0_root hi I J (fineF (gC I) p r j)) mv_X0_root tb_415 rfl rfl (by omega) (Nat.le_of_ble_eq_true rfl) dX0_matchedUndamped_40 ?_
              refine wl_lmul hX dX0_matchedUndamped_43 ?_
              refine wl_ladd hX dX0_matchedUndamped_44 ?_
              refine wl_lstore_n hX (lv' := [(2, .long ((accF ((wholeF (gC I) j) p) r (triF (wholeF (gC I) j) p)) + (1000 * (rootF (fineF (gC I) p r j))))), (0, .ref (ad 4)), (1, .int (nI j)), (4, .int (nI p)), (5, .int (nI r))]) rfl (by decide) dX0_matchedUndamped_45 ?_
              refine wl_iinc hX (v := nI (r + 1)) (lv' := [(5, .int (nI (r + 1))), (2, .long ((accF ((wholeF (gC I) j) p) r (triF (wholeF (gC I) j) p)) + (1000 * (rootF (fineF (gC I) p r j))))), (0, .ref (ad 4)), (1, .int (nI j)), (4, .int (nI p))]) 4 rfl (nI_1 _) rfl (by decide) dX0_matchedUndamped_46 ?_
              refine wl_goto hX (tgt := 20) dX0_matchedUndamped_49 (by decide) ?_
              refine wl_sub hX [2, 3, 1, 4, 0] rfl ?_
              exact ihM (r + 1) (by omega) (by omega)
        exact M (p + 1) 0 (by omega) (by omega)
  exact L (P + 1) 0 (by omega) (by omega)

set_option maxHeartbeats 400000 in
theorem c_X0_matchedHigh {l : Launch} {D : va_G} {ad : Nat → Nat} {cy : Nat → ClassId} (hi : hx_inj ad) (I : MI) (J : MJ) (j : Nat) (hj : j < 6) (P : Nat) (hP : I 1 0 = nI P) (hP12 : P ≤ 12) : Ct l D ad cy yX0_matchedHigh cX0_matchedHigh 6 (some .long) 2 [.ref (ad 4), .int (nI j)] I J (hx_is (some (.long (mHighF (gC I) (bC I) P j))) I J) := by
  refine ct_start hi (by decide +kernel) (Nat.le_of_ble_eq_true rfl) (fun X hX hT => ?_)
  show X 0 [(0, .ref (ad 4)), (1, .int (nI j))] [] I J
  refine wl_lconst hX (v := 0) dX0_matchedHigh_0 (by decide) ?_
  refine wl_lstore_n hX (lv' := [(2, .long 0), (0, .ref (ad 4)), (1, .int (nI j))]) rfl (by decide) dX0_matchedHigh_1 ?_
  refine wl_iconst hX (v := 0) dX0_matchedHigh_2 (by decide) ?_
  refine wl_istore hX (lv' := [(4, .int 0), (2, .long 0), (0, .ref (ad 4)), (1, .int (nI j))]) rfl (by decide) dX0_matchedHigh_3 ?_
  refine wl_sub hX [2, 3, 1, 0] rfl ?_
  have L : ∀ (k p : Nat), p ≤ P → P - p < k → X 5 [(0, .ref (ad 4)), (1, .int (nI j)), (2, .long (triF (highF (gC I) (bC I) j) p)), (4, .int (nI p))] [] I J := by
    intro k
    induction k with
    | zero => exact fun _  _ h => absurd h (Nat.not_lt_zero _)
    | succ k ihL =>
      intro p  hpn hpk
      refine wl_iload hX 3 rfl dX0_matchedHigh_5 ?_
      refine wl_aload_n hX 0 rfl dX0_matchedHigh_7 ?_
      refine gf_X0_0 hX tb_170 dX0_matchedHigh_8 ?_
      refine gf_X1_0 hX tb_52 dX0_matchedHigh_11 ?_
      refine wl_eqi (y := nI P) hP ?_
      refine wl_icmp_ge hX (tgt := 66) dX0_matchedHigh_14 (by decide) (fun hpc => ?_) (fun hpc => ?_)
      · have hpe : p = P := by
          have h9 := (nI_leI (by omega) (by omega)).mp hpc
          omega
        refine wl_ldc2 hX tb_419 dX0_matchedHigh_66 ?_
        refine wl_lload_n hX 2 rfl dX0_matchedHigh_69 ?_
        refine wl_lmul hX dX0_matchedHigh_70 ?_
        refine wl_ldc2 hX tb_420 dX0_matchedHigh_71 ?_
        refine wl_ladd hX dX0_matchedHigh_74 ?_
        refine wl_lconst hX (v := 1) dX0_matchedHigh_75 (by decide) ?_
        refine wl_lsub hX dX0_matchedHigh_76 ?_
        refine wl_ldc2 hX tb_420 dX0_matchedHigh_77 ?_
        refine wl_ldiv hX dX0_matchedHigh_80 (by decide) ?_
        exact wl_lreturn hT dX0_matchedHigh_81 (hx_rl (by rw [hpe]; rfl))
      · have hp1 : p < P := Nat.lt_of_not_le (fun z => hpc ((nI_leI (by omega) (by omega)).mpr z))
        refine wl_iconst hX (v := 0) dX0_matchedHigh_17 (by decide) ?_
        refine wl_istore hX (lv' := [(5, .int 0), (0, .ref (ad 4)), (1, .int (nI j)), (2, .long (triF (highF (gC I) (bC I) j) p)), (4, .int (nI p))]) rfl (by decide) dX0_matchedHigh_18 ?_
        refine wl_sub hX [1, 2, 3, 4, 0] rfl ?_
        have M : ∀ (k r : Nat), r ≤ p → p - r < k → X 20 [(0, .ref (ad 4)), (1, .int (nI j)), (2, .long (accF ((highF (gC I) (bC I) j) p) r (triF (highF (gC I) (bC I) j) p))), (4, .int (nI p)), (5, .int (nI r))] [] I J := by
          intro k
          induction k with
          | zero => exact fun _  _ h => absurd h (Nat.not_lt_zero _)
          | succ k ihM =>
            intro r  hrn hrk
            refine wl_iload hX 4 rfl dX0_matchedHigh_20 ?_
            refine wl_iload hX 3 rfl dX0_matchedHigh_22 ?_
            refine wl_icmp_ge hX (tgt := 60) dX0_matchedHigh_24 (by decide) (fun hrc => ?_) (fun hrc => ?_)
            · have hre : r = p := by
                have h9 := (nI_leI (by omega) (by omega)).mp hrc
                omega
              rw [hre]
              refine wl_iinc hX (v := nI (p + 1)) (lv' := [(4, .int (nI (p + 1))), (0, .ref (ad 4)), (1, .int (nI j)), (2, .long (accF ((highF (gC I) (bC I) j) p) p (triF (highF (gC I) (bC I) j) p))), (5, .int (nI p))]) 3 rfl (nI_1 _) rfl (by decide) dX0_matchedHigh_60 ?_
              refine wl_goto hX (tgt := 5) dX0_matchedHigh_63 (by decide) ?_
              refine wl_sub hX [1, 2, 3, 0] rfl ?_
              exact ihL (p + 1) (by omega) (by omega)
            · have hr1 : r < p := Nat.lt_of_not_le (fun z => hrc ((nI_leI (by omega) (by omega)).mpr z))
              refine wl_lload_n hX 2 rfl dX0_matchedHigh_27 ?_
              refine wl_aload_n hX 0 rfl dX0_matchedHigh_28 ?_
              refine gf_X0_3 hX tb_175 dX0_matchedHigh_29 ?_
              refine wl_iload hX 3 rfl dX0_matchedHigh_32 ?_
              refine wl_aald4 hX p kc_18 rfl (by omega) dX0_matchedHigh_34 ?_
              refine wl_iload hX 4 rfl dX0_matchedHigh_35 ?_
              refine wl_iald hX r (kd_112 (by omega)) rfl (by omega) dX0_matchedHigh_37 ?_
              refine wl_i2l hX (v := (I (112 + p) r).toInt64) dX0_matchedHigh_38 rfl ?_
              refine wl_aload_n hX 0 rfl dX0_matchedHigh_39 ?_
              refine wl_iload hX 3 rfl dX0_matchedHigh_40 ?_
              refine wl_iload hX 4 rfl dX0_matchedHigh_42 ?_
              refine wl_iload_n hX 1 rfl dX0_matchedHigh_44 ?_
              refine wl_cVl hX (c_X0_fineProduct hi I J p r j (by omega) (by omega) hj) mv_X0_fineProduct tb_410 (by decide) rfl rfl rfl rfl (by omega) (Nat.le_of_ble_eq_true rfl) dX0_matchedHigh_45 ?_
              refine wl_cSl hX (c_X0_rootAbove hi I J (fineF (gC I) p r j)) mv_X0_rootAbove tb_425 rfl rfl (by omega) (Nat.le_of_ble_eq_true rfl) dX0_matchedHigh_48 ?_
              refine wl_lmul hX dX0_matchedHigh_51 ?_
              refine wl_ladd hX dX0_matchedHigh_52 ?_
              refine wl_lstore_n hX (lv' := [(2, .long ((accF ((highF (gC I) (bC I) j) p) r (triF (highF (gC I) (bC I) j) p)) + (((I (112 + p) r).toInt64) * (rootAF (fineF (gC I) p r j))))), (0, .ref (ad 4)), (1, .int (nI j)), (4, .int (nI p)), (5, .int (nI r))]) rfl (by decide) dX0_matchedHigh_53 ?_
              refine wl_iinc hX (v := nI (r + 1)) (lv' := [(5, .int (nI (r + 1))), (2, .long ((accF ((highF (gC I) (bC I) j) p) r (triF (highF (gC I) (bC I) j) p)) + (((I (112 + p) r).toInt64) * (rootAF (fineF (gC I) p r j))))), (0, .ref (ad 4)), (1, .int (nI j)), (4, .int (nI p))]) 4 rfl (nI_1 _) rfl (by decide) dX0_matchedHigh_54 ?_
              refine wl_goto hX (tgt := 20) dX0_matchedHigh_57 (by decide) ?_
              refine wl_sub hX [2, 3, 1, 4, 0] rfl ?_
              exact ihM (r + 1) (by omega) (by omega)
        exact M (p + 1) 0 (by omega) (by omega)
  exact L (P + 1) 0 (by omega) (by omega)

set_option maxHeartbeats 400000 in
theorem c_X0_digestPerson {l : Launch} {D : va_G} {ad : Nat → Nat} {cy : Nat → ClassId} (hi : hx_inj ad) (I : MI) (J : MJ) (z : Int64) (p : Nat) (hp : p < 12) (R : Nat) (hR : I 4 1 = nI R) (hR6 : R ≤ 6) : Ct l D ad cy yX0_digestPerson cX0_digestPerson 7 (some .long) 0 [.ref (ad 4), .long z, .int (nI p)] I J (hx_is (some (.long (dgFF (gC I p) (bC I p) R p z))) I J) := by
  refine ct_start hi (by decide +kernel) (Nat.le_of_ble_eq_true rfl) (fun X hX hT => ?_)
  show X 0 [(0, .ref (ad 4)), (1, .long z), (3, .int (nI p))] [] I J
  refine wl_lload_n hX 1 rfl dX0_digestPerson_0 ?_
  refine wl_lstore hX (lv' := [(4, .long z), (0, .ref (ad 4)), (1, .long z), (3, .int (nI p))]) rfl (by decide) dX0_digestPerson_1 ?_
  refine wl_iconst hX (v := 0) dX0_digestPerson_3 (by decide) ?_
  refine wl_istore hX (lv' := [(6, .int 0), (4, .long z), (0, .ref (ad 4)), (1, .long z), (3, .int (nI p))]) rfl (by decide) dX0_digestPerson_4 ?_
  refine wl_sub hX [2, 3, 4, 1, 0] rfl ?_
  have L : ∀ (k q : Nat), q ≤ R → R - q < k → X 6 [(0, .ref (ad 4)), (1, .long z), (3, .int (nI p)), (4, .long (chF (gC I p) q z)), (6, .int (nI q))] [] I J := by
    intro k
    induction k with
    | zero => exact fun _  _ h => absurd h (Nat.not_lt_zero _)
    | succ k ihL =>
      intro q  hqn hqk
      refine wl_iload hX 4 rfl dX0_digestPerson_6 ?_
      refine wl_aload_n hX 0 rfl dX0_digestPerson_8 ?_
      refine gf_X0_1 hX tb_171 dX0_digestPerson_9 ?_
      refine wl_eqi (y := nI R) hR ?_
      refine wl_icmp_ge hX (tgt := 40) dX0_digestPerson_12 (by decide) (fun hqc => ?_) (fun hqc => ?_)
      · have hqe : q = R := by
          have h9 := (nI_leI (by omega) (by omega)).mp hqc
          omega
        rw [hqe]
        refine wl_iconst hX (v := 0) dX0_digestPerson_40 (by decide) ?_
        refine wl_istore hX (lv' := [(6, .int 0), (0, .ref (ad 4)), (1, .long z), (3, .int (nI p)), (4, .long (chF (gC I p) R z))]) rfl (by decide) dX0_digestPerson_41 ?_
        refine wl_sub hX [1, 2, 3, 4, 0] rfl ?_
        have M : ∀ (k r : Nat), r ≤ p → p - r < k → X 43 [(0, .ref (ad 4)), (1, .long z), (3, .int (nI p)), (4, .long (chF (bC I p) r (chF (gC I p) R z))), (6, .int (nI r))] [] I J := by
          intro k
          induction k with
          | zero => exact fun _  _ h => absurd h (Nat.not_lt_zero _)
          | succ k ihM =>
            intro r  hrn hrk
            refine wl_iload hX 4 rfl dX0_digestPerson_43 ?_
            refine wl_iload_n hX 2 rfl dX0_digestPerson_45 ?_
            refine wl_icmp_ge hX (tgt := 74) dX0_digestPerson_46 (by decide) (fun hrc => ?_) (fun hrc => ?_)
            · have hre : r = p := by
                have h9 := (nI_leI (by omega) (by omega)).mp hrc
                omega
              refine wl_lload hX 3 rfl dX0_digestPerson_74 ?_
              exact wl_lreturn hT dX0_digestPerson_76 (hx_rl (by rw [hre]; rfl))
            · have hr1 : r < p := Nat.lt_of_not_le (fun z => hrc ((nI_leI (by omega) (by omega)).mpr z))
              refine wl_ldc2 hX tb_492 dX0_digestPerson_49 ?_
              refine wl_lload hX 3 rfl dX0_digestPerson_52 ?_
              refine wl_lmul hX dX0_digestPerson_54 ?_
              refine wl_aload_n hX 0 rfl dX0_digestPerson_55 ?_
              refine gf_X0_3 hX tb_175 dX0_digestPerson_56 ?_
              refine wl_iload_n hX 2 rfl dX0_digestPerson_59 ?_
              refine wl_aald4 hX p kc_18 rfl (by omega) dX0_digestPerson_60 ?_
              refine wl_iload hX 4 rfl dX0_digestPerson_61 ?_
              refine wl_iald hX r (kd_112 (by omega)) rfl (by omega) dX0_digestPerson_63 ?_
              refine wl_i2l hX (v := (I (112 + p) r).toInt64) dX0_digestPerson_64 rfl ?_
              refine wl_ladd hX dX0_digestPerson_65 ?_
              refine wl_lstore hX (lv' := [(4, .long ((31 * (chF (bC I p) r (chF (gC I p) R z))) + ((I (112 + p) r).toInt64))), (0, .ref (ad 4)), (1, .long z), (3, .int (nI p)), (6, .int (nI r))]) rfl (by decide) dX0_digestPerson_66 ?_
              refine wl_iinc hX (v := nI (r + 1)) (lv' := [(6, .int (nI (r + 1))), (4, .long ((31 * (chF (bC I p) r (chF (gC I p) R z))) + ((I (112 + p) r).toInt64))), (0, .ref (ad 4)), (1, .long z), (3, .int (nI p))]) 4 rfl (nI_1 _) rfl (by decide) dX0_digestPerson_68 ?_
              refine wl_goto hX (tgt := 43) dX0_digestPerson_71 (by decide) ?_
              refine wl_sub hX [2, 3, 4, 1, 0] rfl ?_
              exact ihM (r + 1) (by omega) (by omega)
        exact M (p + 1) 0 (by omega) (by omega)
      · have hq1 : q < R := Nat.lt_of_not_le (fun z => hqc ((nI_leI (by omega) (by omega)).mpr z))
        refine wl_ldc2 hX tb_492 dX0_digestPerson_15 ?_
        refine wl_lload hX 3 rfl dX0_digestPerson_18 ?_
        refine wl_lmul hX dX0_digestPerson_20 ?_
        refine wl_aload_n hX 0 rfl dX0_digestPerson_21 ?_
        refine gf_X0_2 hX tb_173 dX0_digestPerson_22 ?_
        refine wl_iload_n hX 2 rfl dX0_digestPerson_25 ?_
        refine wl_aald4 hX p kc_17 rfl (by omega) dX0_digestPerson_26 ?_
        refine wl_iload hX 4 rfl dX0_digestPerson_27 ?_
        refine wl_iald hX q (kd_100 (by omega)) rfl (by omega) dX0_digestPerson_29 ?_
        refine wl_i2l hX (v := (I (100 + p) q).toInt64) dX0_digestPerson_30 rfl ?_
        refine wl_ladd hX dX0_digestPerson_31 ?_
        refine wl_lstore hX (lv' := [(4, .long ((31 * (chF (gC I p) q z)) + ((I (100 + p) q).toInt64))), (0, .ref (ad 4)), (1, .long z), (3, .int (nI p)), (6, .int (nI q))]) rfl (by decide) dX0_digestPerson_32 ?_
        refine wl_iinc hX (v := nI (q + 1)) (lv' := [(6, .int (nI (q + 1))), (4, .long ((31 * (chF (gC I p) q z)) + ((I (100 + p) q).toInt64))), (0, .ref (ad 4)), (1, .long z), (3, .int (nI p))]) 4 rfl (nI_1 _) rfl (by decide) dX0_digestPerson_34 ?_
        refine wl_goto hX (tgt := 6) dX0_digestPerson_37 (by decide) ?_
        refine wl_sub hX [2, 3, 4, 1, 0] rfl ?_
        exact ihL (q + 1) (by omega) (by omega)
  exact L (R + 1) 0 (by omega) (by omega)

set_option maxHeartbeats 400000 in
theorem c_X0_shareOf {l : Launch} {D : va_G} {ad : Nat → Nat} {cy : Nat → ClassId} (hi : hx_inj ad) (I : MI) (J : MJ) (j : Nat) (pot : Int64) (P : Nat) (hP : I 1 0 = nI P) (hP12 : P ≤ 12) (R : Nat) (hR : I 4 1 = nI R) (hR6 : R ≤ 6) (hj : j < R) : Ct l D ad cy yX0_shareOf cX0_shareOf 14 (some .long) 2 [.ref (ad 4), .int (nI j), .long pot] I J (hx_is (some (.long (shareF (mLowF (gC I) (bC I) P) R j pot))) I (lwJ J 19 (mLowF (gC I) (bC I) P) R)) := by
  refine ct_start hi (by decide +kernel) (Nat.le_of_ble_eq_true rfl) (fun X hX hT => ?_)
  show X 0 [(0, .ref (ad 4)), (1, .int (nI j)), (2, .long pot)] [] I J
  refine wl_lconst hX (v := 0) dX0_shareOf_0 (by decide) ?_
  refine wl_lstore hX (lv' := [(4, .long 0), (0, .ref (ad 4)), (1, .int (nI j)), (2, .long pot)]) rfl (by decide) dX0_shareOf_1 ?_
  refine wl_iconst hX (v := 0) dX0_shareOf_3 (by decide) ?_
  refine wl_istore hX (lv' := [(6, .int 0), (4, .long 0), (0, .ref (ad 4)), (1, .int (nI j)), (2, .long pot)]) rfl (by decide) dX0_shareOf_4 ?_
  refine wl_sub hX [2, 3, 4, 1, 0] rfl ?_
  have L : ∀ (k i : Nat), i ≤ R → R - i < k → X 6 [(0, .ref (ad 4)), (1, .int (nI j)), (2, .long pot), (4, .long (sJ (mLowF (gC I) (bC I) P) i)), (6, .int (nI i))] [] I (lwJ J 19 (mLowF (gC I) (bC I) P) i) := by
    intro k
    induction k with
    | zero => exact fun _  _ h => absurd h (Nat.not_lt_zero _)
    | succ k ihL =>
      intro i  hin hik
      refine wl_iload hX 4 rfl dX0_shareOf_6 ?_
      refine wl_aload_n hX 0 rfl dX0_shareOf_8 ?_
      refine gf_X0_1 hX tb_171 dX0_shareOf_9 ?_
      refine wl_eqi (y := nI R) hR ?_
      refine wl_icmp_ge hX (tgt := 46) dX0_shareOf_12 (by decide) (fun hic => ?_) (fun hic => ?_)
      · have hie : i = R := by
          have h9 := (nI_leI (by omega) (by omega)).mp hic
          omega
        rw [hie]
        refine wl_lload hX 3 rfl dX0_shareOf_46 ?_
        refine wl_lconst hX (v := 0) dX0_shareOf_48 (by decide) ?_
        refine wl_lif_gt hX (tgt := 55) dX0_shareOf_49 dX0_shareOf_50 (by decide) (fun h1 => ?_) (fun h1 => ?_)
        · refine wl_lload_n hX 2 rfl dX0_shareOf_55 ?_
          refine wl_aload_n hX 0 rfl dX0_shareOf_56 ?_
          refine gf_X0_4 hX tb_177 dX0_shareOf_57 ?_
          refine wl_iload_n hX 1 rfl dX0_shareOf_60 ?_
          refine wl_lald hX j kc_19 rfl (by omega) dX0_shareOf_61 ?_
          refine wl_eql (y := mLowF (gC I) (bC I) P j) (lwJ_at J 19 (mLowF (gC I) (bC I) P) R j hj) ?_
          refine wl_lmul hX dX0_shareOf_62 ?_
          refine wl_lload hX 3 rfl dX0_shareOf_63 ?_
          refine wl_lrem hX dX0_shareOf_65 (hx_ne0 h1) ?_
          refine wl_eql (y := remF (pot * (mLowF (gC I) (bC I) P j)) (sJ (mLowF (gC I) (bC I) P) R)) rfl ?_
          refine wl_lstore hX (lv' := [(6, .long (remF (pot * (mLowF (gC I) (bC I) P j)) (sJ (mLowF (gC I) (bC I) P) R))), (0, .ref (ad 4)), (1, .int (nI j)), (2, .long pot), (4, .long (sJ (mLowF (gC I) (bC I) P) R))]) rfl (by decide) dX0_shareOf_66 ?_
          refine wl_lload_n hX 3 rfl dX0_shareOf_68 ?_
          refine wl_lstore hX (lv' := [(8, .long pot), (6, .long (remF (pot * (mLowF (gC I) (bC I) P j)) (sJ (mLowF (gC I) (bC I) P) R))), (0, .ref (ad 4)), (1, .int (nI j)), (2, .long pot), (4, .long (sJ (mLowF (gC I) (bC I) P) R))]) rfl (by decide) dX0_shareOf_69 ?_
          refine wl_iconst hX (v := 0) dX0_shareOf_71 (by decide) ?_
          refine wl_istore hX (lv' := [(10, .int 0), (8, .long pot), (6, .long (remF (pot * (mLowF (gC I) (bC I) P j)) (sJ (mLowF (gC I) (bC I) P) R))), (0, .ref (ad 4)), (1, .int (nI j)), (2, .long pot), (4, .long (sJ (mLowF (gC I) (bC I) P) R))]) rfl (by decide) dX0_shareOf_72 ?_
          refine wl_iconst hX (v := 0) dX0_shareOf_74 (by decide) ?_
          refine wl_istore hX (lv' := [(11, .int 0), (10, .int 0), (8, .long pot), (6, .long (remF (pot * (mLowF (gC I) (bC I) P j)) (sJ (mLowF (gC I) (bC I) P) R))), (0, .ref (ad 4)), (1, .int (nI j)), (2, .long pot), (4, .long (sJ (mLowF (gC I) (bC I) P) R))]) rfl (by decide) dX0_shareOf_75 ?_
          refine wl_sub hX [4, 5, 6, 7, 3, 2, 1, 0] rfl ?_
          have M : ∀ (k i : Nat), i ≤ R → R - i < k → X 77 [(0, .ref (ad 4)), (1, .int (nI j)), (2, .long pot), (4, .long (sJ (mLowF (gC I) (bC I) P) R)), (6, .long (remF (pot * (mLowF (gC I) (bC I) P j)) (sJ (mLowF (gC I) (bC I) P) R))), (8, .long (lackF (mLowF (gC I) (bC I) P) (sJ (mLowF (gC I) (bC I) P) R) pot i)), (10, .int (servF (mLowF (gC I) (bC I) P) (sJ (mLowF (gC I) (bC I) P) R) pot j i)), (11, .int (nI i))] [] I (lwJ J 19 (mLowF (gC I) (bC I) P) R) := by
            intro k
            induction k with
            | zero => exact fun _  _ h => absurd h (Nat.not_lt_zero _)
            | succ k ihM =>
              intro i  hin hik
              refine wl_iload hX 7 rfl dX0_shareOf_77 ?_
              refine wl_aload_n hX 0 rfl dX0_shareOf_79 ?_
              refine gf_X0_1 hX tb_171 dX0_shareOf_80 ?_
              refine wl_eqi (y := nI R) hR ?_
              refine wl_icmp_ge hX (tgt := 148) dX0_shareOf_83 (by decide) (fun hic => ?_) (fun hic => ?_)
              · have hie : i = R := by
                  have h9 := (nI_leI (by omega) (by omega)).mp hic
                  omega
                rw [hie]
                refine wl_lload_n hX 2 rfl dX0_shareOf_148 ?_
                refine wl_aload_n hX 0 rfl dX0_shareOf_149 ?_
                refine gf_X0_4 hX tb_177 dX0_shareOf_150 ?_
                refine wl_iload_n hX 1 rfl dX0_shareOf_153 ?_
                refine wl_lald hX j kc_19 rfl (by omega) dX0_shareOf_154 ?_
                refine wl_eql (y := mLowF (gC I) (bC I) P j) (lwJ_at J 19 (mLowF (gC I) (bC I) P) R j hj) ?_
                refine wl_lmul hX dX0_shareOf_155 ?_
                refine wl_lload hX 3 rfl dX0_shareOf_156 ?_
                refine wl_ldiv hX dX0_shareOf_158 (hx_ne0 h1) ?_
                refine wl_lstore hX (lv' := [(11, .long ((pot * (mLowF (gC I) (bC I) P j)) / (sJ (mLowF (gC I) (bC I) P) R))), (0, .ref (ad 4)), (1, .int (nI j)), (2, .long pot), (4, .long (sJ (mLowF (gC I) (bC I) P) R)), (6, .long (remF (pot * (mLowF (gC I) (bC I) P j)) (sJ (mLowF (gC I) (bC I) P) R))), (8, .long (lackF (mLowF (gC I) (bC I) P) (sJ (mLowF (gC I) (bC I) P) R) pot R)), (10, .int (servF (mLowF (gC I) (bC I) P) (sJ (mLowF (gC I) (bC I) P) R) pot j R))]) rfl (by decide) dX0_shareOf_159 ?_
                refine wl_iload hX 7 rfl dX0_shareOf_161 ?_
                refine wl_i2l hX (v := (servF (mLowF (gC I) (bC I) P) (sJ (mLowF (gC I) (bC I) P) R) pot j R).toInt64) dX0_shareOf_163 rfl ?_
                refine wl_lload hX 6 rfl dX0_shareOf_164 ?_
                refine wl_lif_ge hX (tgt := 177) dX0_shareOf_166 dX0_shareOf_167 (by decide) (fun h7 => ?_) (fun h7 => ?_)
                · refine wl_lload hX 0 rfl dX0_shareOf_177 ?_
                  exact wl_lreturn hT dX0_shareOf_179 (hx_rl (by unfold shareF; rw [if_pos h1, if_neg (fun z => by rw [Int64.lt_iff_toInt_lt] at z; rw [Int64.le_iff_toInt_le] at h7; omega)]))
                · refine wl_lload hX 0 rfl dX0_shareOf_170 ?_
                  refine wl_lconst hX (v := 1) dX0_shareOf_172 (by decide) ?_
                  refine wl_ladd hX dX0_shareOf_173 ?_
                  refine wl_goto hX (tgt := 179) dX0_shareOf_174 (by decide) ?_
                  exact wl_lreturn hT dX0_shareOf_179 (hx_rl (by unfold shareF; rw [if_pos h1, if_pos (by rw [Int64.le_iff_toInt_le] at h7; rw [Int64.lt_iff_toInt_lt]; omega)]))
              · have hi1 : i < R := Nat.lt_of_not_le (fun z => hic ((nI_leI (by omega) (by omega)).mpr z))
                refine wl_lload hX 5 rfl dX0_shareOf_86 ?_
                refine wl_lload_n hX 2 rfl dX0_shareOf_88 ?_
                refine wl_aload_n hX 0 rfl dX0_shareOf_89 ?_
                refine gf_X0_4 hX tb_177 dX0_shareOf_90 ?_
                refine wl_iload hX 7 rfl dX0_shareOf_93 ?_
                refine wl_lald hX i kc_19 rfl (by omega) dX0_shareOf_95 ?_
                refine wl_eql (y := mLowF (gC I) (bC I) P i) (lwJ_at J 19 (mLowF (gC I) (bC I) P) R i (by omega)) ?_
                refine wl_lmul hX dX0_shareOf_96 ?_
                refine wl_lload hX 3 rfl dX0_shareOf_97 ?_
                refine wl_ldiv hX dX0_shareOf_99 (hx_ne0 h1) ?_
                refine wl_lsub hX dX0_shareOf_100 ?_
                refine wl_lstore hX (lv' := [(8, .long ((lackF (mLowF (gC I) (bC I) P) (sJ (mLowF (gC I) (bC I) P) R) pot i) - ((pot * (mLowF (gC I) (bC I) P i)) / (sJ (mLowF (gC I) (bC I) P) R)))), (0, .ref (ad 4)), (1, .int (nI j)), (2, .long pot), (4, .long (sJ (mLowF (gC I) (bC I) P) R)), (6, .long (remF (pot * (mLowF (gC I) (bC I) P j)) (sJ (mLowF (gC I) (bC I) P) R))), (10, .int (servF (mLowF (gC I) (bC I) P) (sJ (mLowF (gC I) (bC I) P) R) pot j i)), (11, .int (nI i))]) rfl (by decide) dX0_shareOf_101 ?_
                refine wl_lload_n hX 3 rfl dX0_shareOf_103 ?_
                refine wl_aload_n hX 1 rfl dX0_shareOf_104 ?_
                refine gf_X0_4 hX tb_177 dX0_shareOf_105 ?_
                refine wl_iload hX 7 rfl dX0_shareOf_108 ?_
                refine wl_lald hX i kc_19 rfl (by omega) dX0_shareOf_110 ?_
                refine wl_eql (y := mLowF (gC I) (bC I) P i) (lwJ_at J 19 (mLowF (gC I) (bC I) P) R i (by omega)) ?_
                refine wl_lmul hX dX0_shareOf_111 ?_
                refine wl_lload hX 4 rfl dX0_shareOf_112 ?_
                refine wl_lrem hX dX0_shareOf_114 (hx_ne0 h1) ?_
                refine wl_eql (y := remF (pot * (mLowF (gC I) (bC I) P i)) (sJ (mLowF (gC I) (bC I) P) R)) rfl ?_
                refine wl_lstore hX (lv' := [(12, .long (remF (pot * (mLowF (gC I) (bC I) P i)) (sJ (mLowF (gC I) (bC I) P) R))), (8, .long ((lackF (mLowF (gC I) (bC I) P) (sJ (mLowF (gC I) (bC I) P) R) pot i) - ((pot * (mLowF (gC I) (bC I) P i)) / (sJ (mLowF (gC I) (bC I) P) R)))), (0, .ref (ad 4)), (1, .int (nI j)), (2, .long pot), (4, .long (sJ (mLowF (gC I) (bC I) P) R)), (6, .long (remF (pot * (mLowF (gC I) (bC I) P j)) (sJ (mLowF (gC I) (bC I) P) R))), (10, .int (servF (mLowF (gC I) (bC I) P) (sJ (mLowF (gC I) (bC I) P) R) pot j i)), (11, .int (nI i))]) rfl (by decide) dX0_shareOf_115 ?_
                refine wl_lload hX 0 rfl dX0_shareOf_117 ?_
                refine wl_lload hX 6 rfl dX0_shareOf_119 ?_
                have e2 : servF (mLowF (gC I) (bC I) P) (sJ (mLowF (gC I) (bC I) P) R) pot j (i + 1) = servF (mLowF (gC I) (bC I) P) (sJ (mLowF (gC I) (bC I) P) R) pot j i + (if remF (pot * (mLowF (gC I) (bC I) P j)) (sJ (mLowF (gC I) (bC I) P) R) < remF (pot * (mLowF (gC I) (bC I) P i)) (sJ (mLowF (gC I) (bC I) P) R) ∨ (remF (pot * (mLowF (gC I) (bC I) P i)) (sJ (mLowF (gC I) (bC I) P) R) = remF (pot * (mLowF (gC I) (bC I) P j)) (sJ (mLowF (gC I) (bC I) P) R) ∧ i < j) then (1 : Int32) else 0) := rfl
                refine wl_lif_gt hX (tgt := 139) dX0_shareOf_121 dX0_shareOf_122 (by decide) (fun h4 => ?_) (fun h4 => ?_)
                · rw [if_pos (Or.inl h4)] at e2
                  refine wl_iinc hX (v := servF (mLowF (gC I) (bC I) P) (sJ (mLowF (gC I) (bC I) P) R) pot j (i + 1)) (lv' := [(10, .int (servF (mLowF (gC I) (bC I) P) (sJ (mLowF (gC I) (bC I) P) R) pot j (i + 1))), (12, .long (remF (pot * (mLowF (gC I) (bC I) P i)) (sJ (mLowF (gC I) (bC I) P) R))), (8, .long ((lackF (mLowF (gC I) (bC I) P) (sJ (mLowF (gC I) (bC I) P) R) pot i) - ((pot * (mLowF (gC I) (bC I) P i)) / (sJ (mLowF (gC I) (bC I) P) R)))), (0, .ref (ad 4)), (1, .int (nI j)), (2, .long pot), (4, .long (sJ (mLowF (gC I) (bC I) P) R)), (6, .long (remF (pot * (mLowF (gC I) (bC I) P j)) (sJ (mLowF (gC I) (bC I) P) R))), (11, .int (nI i))]) 7 rfl (by exact e2.symm) rfl (by decide) dX0_shareOf_139 ?_
                  refine wl_iinc hX (v := nI (i + 1)) (lv' := [(11, .int (nI (i + 1))), (10, .int (servF (mLowF (gC I) (bC I) P) (sJ (mLowF (gC I) (bC I) P) R) pot j (i + 1))), (12, .long (remF (pot * (mLowF (gC I) (bC I) P i)) (sJ (mLowF (gC I) (bC I) P) R))), (8, .long ((lackF (mLowF (gC I) (bC I) P) (sJ (mLowF (gC I) (bC I) P) R) pot i) - ((pot * (mLowF (gC I) (bC I) P i)) / (sJ (mLowF (gC I) (bC I) P) R)))), (0, .ref (ad 4)), (1, .int (nI j)), (2, .long pot), (4, .long (sJ (mLowF (gC I) (bC I) P) R)), (6, .long (remF (pot * (mLowF (gC I) (bC I) P j)) (sJ (mLowF (gC I) (bC I) P) R)))]) 8 rfl (nI_1 _) rfl (by decide) dX0_shareOf_142 ?_
                  refine wl_goto hX (tgt := 77) dX0_shareOf_145 (by decide) ?_
                  refine wl_sub hX [4, 5, 6, 7, 8, 3, 1, 0] rfl ?_
                  exact ihM (i + 1) (by omega) (by omega)
                · refine wl_lload hX 0 rfl dX0_shareOf_125 ?_
                  refine wl_lload hX 6 rfl dX0_shareOf_127 ?_
                  refine wl_lif_ne hX (tgt := 142) dX0_shareOf_129 dX0_shareOf_130 (by decide) (fun h5 => ?_) (fun h5 => ?_)
                  · rw [if_neg (fun z => z.elim h4 (fun y => h5 y.1)), i_add0] at e2
                    rw [← e2]
                    refine wl_iinc hX (v := nI (i + 1)) (lv' := [(11, .int (nI (i + 1))), (12, .long (remF (pot * (mLowF (gC I) (bC I) P i)) (sJ (mLowF (gC I) (bC I) P) R))), (8, .long ((lackF (mLowF (gC I) (bC I) P) (sJ (mLowF (gC I) (bC I) P) R) pot i) - ((pot * (mLowF (gC I) (bC I) P i)) / (sJ (mLowF (gC I) (bC I) P) R)))), (0, .ref (ad 4)), (1, .int (nI j)), (2, .long pot), (4, .long (sJ (mLowF (gC I) (bC I) P) R)), (6, .long (remF (pot * (mLowF (gC I) (bC I) P j)) (sJ (mLowF (gC I) (bC I) P) R))), (10, .int (servF (mLowF (gC I) (bC I) P) (sJ (mLowF (gC I) (bC I) P) R) pot j (i + 1)))]) 8 rfl (nI_1 _) rfl (by decide) dX0_shareOf_142 ?_
                    refine wl_goto hX (tgt := 77) dX0_shareOf_145 (by decide) ?_
                    refine wl_sub hX [3, 4, 5, 6, 7, 2, 8, 0] rfl ?_
                    exact ihM (i + 1) (by omega) (by omega)
                  · refine wl_iload hX 8 rfl dX0_shareOf_133 ?_
                    refine wl_iload_n hX 3 rfl dX0_shareOf_135 ?_
                    refine wl_icmp_ge hX (tgt := 142) dX0_shareOf_136 (by decide) (fun h6 => ?_) (fun h6 => ?_)
                    · rw [if_neg (fun z => z.elim h4 (fun y => absurd ((nI_leI (by omega) (by omega)).mp h6) (by omega))), i_add0] at e2
                      rw [← e2]
                      refine wl_iinc hX (v := nI (i + 1)) (lv' := [(11, .int (nI (i + 1))), (12, .long (remF (pot * (mLowF (gC I) (bC I) P i)) (sJ (mLowF (gC I) (bC I) P) R))), (8, .long ((lackF (mLowF (gC I) (bC I) P) (sJ (mLowF (gC I) (bC I) P) R) pot i) - ((pot * (mLowF (gC I) (bC I) P i)) / (sJ (mLowF (gC I) (bC I) P) R)))), (0, .ref (ad 4)), (1, .int (nI j)), (2, .long pot), (4, .long (sJ (mLowF (gC I) (bC I) P) R)), (6, .long (remF (pot * (mLowF (gC I) (bC I) P j)) (sJ (mLowF (gC I) (bC I) P) R))), (10, .int (servF (mLowF (gC I) (bC I) P) (sJ (mLowF (gC I) (bC I) P) R) pot j (i + 1)))]) 8 rfl (nI_1 _) rfl (by decide) dX0_shareOf_142 ?_
                      refine wl_goto hX (tgt := 77) dX0_shareOf_145 (by decide) ?_
                      refine wl_sub hX [3, 4, 5, 6, 7, 2, 8, 0] rfl ?_
                      exact ihM (i + 1) (by omega) (by omega)
                    · rw [if_pos (Or.inr ⟨h5, Nat.lt_of_not_le (fun z => h6 ((nI_leI (by omega) (by omega)).mpr z))⟩)] at e2
                      refine wl_iinc hX (v := servF (mLowF (gC I) (bC I) P) (sJ (mLowF (gC I) (bC I) P) R) pot j (i + 1)) (lv' := [(10, .int (servF (mLowF (gC I) (bC I) P) (sJ (mLowF (gC I) (bC I) P) R) pot j (i + 1))), (12, .long (remF (pot * (mLowF (gC I) (bC I) P i)) (sJ (mLowF (gC I) (bC I) P) R))), (8, .long ((lackF (mLowF (gC I) (bC I) P) (sJ (mLowF (gC I) (bC I) P) R) pot i) - ((pot * (mLowF (gC I) (bC I) P i)) / (sJ (mLowF (gC I) (bC I) P) R)))), (0, .ref (ad 4)), (1, .int (nI j)), (2, .long pot), (4, .long (sJ (mLowF (gC I) (bC I) P) R)), (6, .long (remF (pot * (mLowF (gC I) (bC I) P j)) (sJ (mLowF (gC I) (bC I) P) R))), (11, .int (nI i))]) 7 rfl (by exact e2.symm) rfl (by decide) dX0_shareOf_139 ?_
                      refine wl_iinc hX (v := nI (i + 1)) (lv' := [(11, .int (nI (i + 1))), (10, .int (servF (mLowF (gC I) (bC I) P) (sJ (mLowF (gC I) (bC I) P) R) pot j (i + 1))), (12, .long (remF (pot * (mLowF (gC I) (bC I) P i)) (sJ (mLowF (gC I) (bC I) P) R))), (8, .long ((lackF (mLowF (gC I) (bC I) P) (sJ (mLowF (gC I) (bC I) P) R) pot i) - ((pot * (mLowF (gC I) (bC I) P i)) / (sJ (mLowF (gC I) (bC I) P) R)))), (0, .ref (ad 4)), (1, .int (nI j)), (2, .long pot), (4, .long (sJ (mLowF (gC I) (bC I) P) R)), (6, .long (remF (pot * (mLowF (gC I) (bC I) P j)) (sJ (mLowF (gC I) (bC I) P) R)))]) 8 rfl (nI_1 _) rfl (by decide) dX0_shareOf_142 ?_
                      refine wl_goto hX (tgt := 77) dX0_shareOf_145 (by decide) ?_
                      refine wl_sub hX [4, 5, 6, 7, 8, 3, 1, 0] rfl ?_
                      exact ihM (i + 1) (by omega) (by omega)
          exact M (R + 1) 0 (by omega) (by omega)
        · refine wl_lconst hX (v := 0) dX0_shareOf_53 (by decide) ?_
          exact wl_lreturn hT dX0_shareOf_54 (hx_rl (by unfold shareF; rw [if_neg h1]))
      · have hi1 : i < R := Nat.lt_of_not_le (fun z => hic ((nI_leI (by omega) (by omega)).mpr z))
        refine wl_aload_n hX 0 rfl dX0_shareOf_15 ?_
        refine gf_X0_4 hX tb_177 dX0_shareOf_16 ?_
        refine wl_iload hX 4 rfl dX0_shareOf_19 ?_
        refine wl_aload_n hX 0 rfl dX0_shareOf_21 ?_
        refine wl_iload hX 4 rfl dX0_shareOf_22 ?_
        refine wl_cVl hX (c_X0_matchedLow hi I (lwJ J 19 (mLowF (gC I) (bC I) P) i) i (by omega) P hP hP12) mv_X0_matchedLow tb_437 (by decide) rfl rfl rfl rfl (by omega) (Nat.le_of_ble_eq_true rfl) dX0_shareOf_24 ?_
        refine wl_last hX i kc_19 rfl (by omega) dX0_shareOf_27 ?_
        refine wl_lload hX 3 rfl dX0_shareOf_28 ?_
        refine wl_aload_n hX 0 rfl dX0_shareOf_30 ?_
        refine gf_X0_4 hX tb_177 dX0_shareOf_31 ?_
        refine wl_iload hX 4 rfl dX0_shareOf_34 ?_
        refine wl_lald hX i kc_19 rfl (by omega) dX0_shareOf_36 ?_
        refine wl_eql (y := mLowF (gC I) (bC I) P i) (lwJ_at J 19 (mLowF (gC I) (bC I) P) (i + 1) i (by omega)) ?_
        refine wl_ladd hX dX0_shareOf_37 ?_
        refine wl_lstore hX (lv' := [(4, .long ((sJ (mLowF (gC I) (bC I) P) i) + (mLowF (gC I) (bC I) P i))), (0, .ref (ad 4)), (1, .int (nI j)), (2, .long pot), (6, .int (nI i))]) rfl (by decide) dX0_shareOf_38 ?_
        refine wl_iinc hX (v := nI (i + 1)) (lv' := [(6, .int (nI (i + 1))), (4, .long ((sJ (mLowF (gC I) (bC I) P) i) + (mLowF (gC I) (bC I) P i))), (0, .ref (ad 4)), (1, .int (nI j)), (2, .long pot)]) 4 rfl (nI_1 _) rfl (by decide) dX0_shareOf_40 ?_
        refine wl_goto hX (tgt := 6) dX0_shareOf_43 (by decide) ?_
        refine wl_sub hX [2, 3, 4, 1, 0] rfl ?_
        exact ihL (i + 1) (by omega) (by omega)
  exact L (R + 1) 0 (by omega) (by omega)
end
section
/-! the search, in plain words -/
/-- the search's own state: tried, found, its gain, its cost -/
abbrev SS : Type := (Nat → Int32) × (Nat → Int32) × Int32 × Int32
def smM (I : MI) (s : SS) : MI := fun a => if a = 14 then s.1 else if a = 15 then s.2.1 else if a = 2 then upd (upd (I 2) 7 s.2.2.1) 8 s.2.2.2 else I a
theorem smM_ne {I : MI} {s : SS} {a : Nat} (h1 : a ≠ 14) (h2 : a ≠ 15) (h3 : a ≠ 2) : smM I s a = I a := by
  unfold smM
  rw [if_neg h1, if_neg h2, if_neg h3]
theorem smM_t (I : MI) (s : SS) (q : Nat) (v : Int32) : hx_u (smM I s) 14 q v = smM I (upd s.1 q v, s.2) := by
  funext a
  unfold hx_u
  by_cases h : a = 14
  · subst h; rfl
  · rw [if_neg h]
    unfold smM
    rw [if_neg h, if_neg h]
theorem smM_f (I : MI) (s : SS) (Q : Nat) : hx_cp (smM I s) 14 15 Q = smM I (s.1, va_cpy s.1 s.2.1 0 0 Q, s.2.2) := by
  funext a
  unfold hx_cp
  by_cases h : a = 15
  · subst h; rfl
  · rw [if_neg h]
    unfold smM
    rw [if_neg h, if_neg h]
theorem smM_g (I : MI) (s : SS) (g : Int32) : hx_u (smM I s) 2 7 g = smM I (s.1, s.2.1, g, s.2.2.2) := by
  funext a
  unfold hx_u
  by_cases h : a = 2
  · subst h
    rw [if_pos rfl]
    show upd (upd (upd (I 2) 7 s.2.2.1) 8 s.2.2.2) 7 g = upd (upd (I 2) 7 g) 8 s.2.2.2
    funext b
    unfold upd
    by_cases h1 : b = 7
    · subst h1; rfl
    · rw [if_neg h1, if_neg h1, if_neg h1]
  · rw [if_neg h]
    unfold smM
    rw [if_neg h, if_neg h]
theorem smM_c (I : MI) (s : SS) (c : Int32) : hx_u (smM I s) 2 8 c = smM I (s.1, s.2.1, s.2.2.1, c) := by
  funext a
  unfold hx_u
  by_cases h : a = 2
  · subst h
    rw [if_pos rfl]
    show upd (upd (upd (I 2) 7 s.2.2.1) 8 s.2.2.2) 8 c = upd (upd (I 2) 7 s.2.2.1) 8 c
    funext b
    unfold upd
    by_cases h1 : b = 8
    · rw [if_pos h1, if_pos h1]
    · rw [if_neg h1, if_neg h1, if_neg h1]
  · rw [if_neg h]
    unfold smM
    rw [if_neg h, if_neg h]
theorem smM_self (I : MI) : smM I (I 14, I 15, I 2 7, I 2 8) = I := by
  funext a
  unfold smM
  by_cases h : a = 14
  · rw [if_pos h, h]
  · rw [if_neg h]
    by_cases h1 : a = 15
    · rw [if_pos h1, h1]
    · rw [if_neg h1]
      by_cases h2 : a = 2
      · rw [if_pos h2, h2]
        funext b
        show upd (upd (I 2) 7 (I 2 7)) 8 (I 2 8) b = I 2 b
        unfold upd
        by_cases h3 : b = 8
        · rw [if_pos h3, h3]
        · rw [if_neg h3]
          by_cases h4 : b = 7
          · rw [if_pos h4, h4]
          · rw [if_neg h4]
      · rw [if_neg h2]
def lxF (t f : Nat → Int32) : Nat → Nat → Int32
  | 0, _ => 0
  | n + 1, q => if t q = f q then lxF t f n (q + 1) else if t q < f q then 1 else 0
def kbF (Q : Nat) (s : SS) (g c : Int32) : SS := if g < s.2.2.1 then s else if g = s.2.2.1 ∧ (s.2.2.2 < c ∨ (c = s.2.2.2 ∧ lxF s.1 s.2.1 Q 0 = 0)) then s else (s.1, va_cpy s.1 s.2.1 0 0 Q, g, c)
def foF {σ : Type} (F : Nat → σ → σ) : Nat → σ → σ
  | 0, s => s
  | n + 1, s => F n (foF F n s)
def stF (T : SS → Int32 → Int32 → SS) (ov og : Nat → Int32) (bud g c : Int32) (q i : Nat) (s : SS) : SS := if bud < c + ov i * ov i then s else T (upd s.1 q (ov i), s.2) (g + og i) (c + ov i * ov i)
/-- n choices, their voices, their gains; what is ahead -/
def tryF (Q : Nat) (n : Nat → Nat) (ov og : Nat → Nat → Int32) (ga : Nat → Int32) (bud : Int32) : Nat → Nat → SS → Int32 → Int32 → SS
  | 0, _, s, g, c => kbF Q s g c
  | d + 1, q, s, g, c => if g + ga q < s.2.2.1 ∨ (g + ga q = s.2.2.1 ∧ s.2.2.2 < c) then s else foF (stF (tryF Q n ov og ga bud d (q + 1)) (ov q) (og q) bud g c q) (n q) s
def oV (I : MI) (q i : Nat) : Int32 := I (57 + q) i
def oG (I : MI) (q i : Nat) : Int32 := I (63 + q) i
/-- the choices of question q from place a on -/
def plM (I : MI) (q : Nat) : Nat → List (Int32 × Int32) → MI
  | _, [] => I
  | a, x :: l => plM (hx_u (hx_u (hx_u I (57 + q) a x.1) (63 + q) a x.2) 10 q (nI (a + 1))) q (a + 1) l
theorem plM_app (q : Nat) (l' : List (Int32 × Int32)) : ∀ (l : List (Int32 × Int32)) (I : MI) (a : Nat), plM I q a (l ++ l') = plM (plM I q a l) q (a + l.length) l'
  | [], _, _ => rfl
  | x :: l, I, a => by
    show plM _ q (a + 1) (l ++ l') = plM (plM _ q (a + 1) l) q (a + (l.length + 1)) l'
    rw [plM_app q l' l, show a + 1 + l.length = a + (l.length + 1) by omega]
theorem plM_n (q : Nat) : ∀ (l : List (Int32 × Int32)) (I : MI) (a : Nat), I 10 q = nI a → plM I q a l 10 q = nI (a + l.length)
  | [], _, _, h => h
  | x :: l, I, a, h => by
    show plM _ q (a + 1) l 10 q = nI (a + (l.length + 1))
    rw [plM_n q l _ (a + 1) (by rw [hx_u_same]; exact if_pos rfl), show a + 1 + l.length = a + (l.length + 1) by omega]
theorem plM_ne (q : Nat) {b : Nat} (h1 : b ≠ 10) (h2 : b ≠ 57 + q) (h3 : b ≠ 63 + q) : ∀ (l : List (Int32 × Int32)) (I : MI) (a : Nat), plM I q a l b = I b
  | [], _, _ => rfl
  | x :: l, I, a => by
    show plM _ q (a + 1) l b = I b
    rw [plM_ne q h1 h2 h3 l, hx_u_ne _ _ _ h1, hx_u_ne _ _ _ h3, hx_u_ne _ _ _ h2]
/-- the choices for others' count o, worth w -/
def beF (w : Int32) : Int32 := if 0 < w then 1 else (-1)
def opA (o w : Int32) : List (Int32 × Int32) := if gByF o w < gByF (beF w) w ∧ ¬ (beF w - o < (-40) ∨ 40 < beF w - o) then [(beF w - o, gByF (beF w) w)] else []
def opB (o w : Int32) : List (Int32 × Int32) := if gByF o w < gByF 0 w ∧ ¬ (-o < (-40) ∨ 40 < -o) then [(-o, gByF 0 w)] else []
def opC (o w : Int32) : List (Int32 × Int32) := (opA o w ++ opB o w) ++ [(0, gByF o w)]
theorem opA_len (o w : Int32) : (opA o w).length ≤ 1 := by
  unfold opA
  split <;> simp
theorem opB_len (o w : Int32) : (opB o w).length ≤ 1 := by
  unfold opB
  split <;> simp
def adF (a : Nat) (v g : Int32) : List (Int32 × Int32) := if 3 ≤ a ∨ v < (-40) ∨ 40 < v then [] else [(v, g)]
theorem adF_len (a : Nat) (v g : Int32) : (adF a v g).length ≤ 1 := by
  unfold adF
  split <;> simp
theorem countF_congr {h h' : Nat → Int32} {v v' : Nat → Nat → Int32} {P q : Nat} (e : ∀ p, p < P → h p = h' p) (e2 : ∀ p, p < P → v p q = v' p q) : countF h v P q = countF h' v' P q :=
  sI_congr P (fun p hp => by rw [e p hp, e2 p hp])
theorem lessF_congr {h h' : Nat → Int32} {v v' : Nat → Nat → Int32} {P p q : Nat} (hp : p < P) (e : ∀ p, p < P → h p = h' p) (e2 : ∀ p, p < P → v p q = v' p q) : lessF h v P p q = lessF h' v' P p q := by
  unfold lessF
  rw [e p hp, e2 p hp, countF_congr e e2]
/-- the cells of the class's search -/
def scrC (a : Nat) : Prop := a = 2 ∨ a = 10 ∨ a = 13 ∨ a = 14 ∨ a = 15 ∨ (57 ≤ a ∧ a < 69)
def fs1 (M : MI) (r : Nat) (o w : Int32) : MI := hx_u (plM (hx_u M 10 r 0) r 0 (opC o w)) 13 r (plM (hx_u M 10 r 0) r 0 (opC o w) 13 (r + 1) + plM (hx_u M 10 r 0) r 0 (opC o w) (63 + r) 0)
def fsF (o w : Nat → Int32) : Nat → MI → MI
  | 0, M => M
  | r + 1, M => fsF o w r (fs1 M r (o r) (w r))
theorem fs1_ne {M : MI} {r : Nat} {o w : Int32} {a : Nat} (hr : r < 6) (h : ¬ scrC a) : fs1 M r o w a = M a := by
  unfold scrC at h
  unfold fs1
  rw [hx_u_ne _ _ _ (by omega), plM_ne r (by omega) (by omega) (by omega), hx_u_ne _ _ _ (by omega)]
def ff0 (I : MI) (Q p : Nat) : MI := hx_u (hx_u (hx_u (hx_u I 2 9 (I 6 p)) 2 7 (-1000000)) 2 8 0) 13 Q 0
def ffO (I : MI) (P p q : Nat) : Int32 := lessF (I 7) (vC I) P p q
def ffB (I : MI) (P Q p : Nat) : MI := fsF (ffO I P p) (wC I p) Q (ff0 I Q p)
def ffN (I : MI) (P p q : Nat) : Nat := (opC (ffO I P p q) (wC I p q)).length
def ffT (I : MI) (P Q p : Nat) : SS := tryF Q (ffN I P p) (oV (ffB I P Q p)) (oG (ffB I P Q p)) (ffB I P Q p 13) (ffB I P Q p 2 9) Q 0 (ffB I P Q p 14, ffB I P Q p 15, ffB I P Q p 2 7, ffB I P Q p 2 8) 0 0
def ffM (I : MI) (P Q p : Nat) : MI := smM (ffB I P Q p) (ffT I P Q p)
theorem opC_len (o w : Int32) : 1 ≤ (opC o w).length ∧ (opC o w).length ≤ 3 := by
  have h1 := opA_len o w
  have h2 := opB_len o w
  unfold opC
  rw [List.length_append, List.length_append]
  simp only [List.length_singleton]
  omega
theorem fsF_ne {o w : Nat → Int32} {a : Nat} (h : ¬ scrC a) : ∀ (r : Nat) (M : MI), r ≤ 6 → fsF o w r M a = M a
  | 0, _, _ => rfl
  | r + 1, M, hr => by
    show fsF o w r (fs1 M r (o r) (w r)) a = M a
    rw [fsF_ne h r _ (by omega), fs1_ne (by omega) h]
/-- behind the loop: the choices' number of each question -/
theorem fsF_10 {o w : Nat → Int32} : ∀ (r : Nat) (M : MI) (q : Nat), r ≤ 6 → (q < r → fsF o w r M 10 q = nI (opC (o q) (w q)).length) ∧ (r ≤ q → fsF o w r M 10 q = M 10 q)
  | 0, _, _, _ => ⟨fun h => absurd h (Nat.not_lt_zero _), fun _ => rfl⟩
  | r + 1, M, q, hr => by
    have ih := fsF_10 (o := o) (w := w) r (fs1 M r (o r) (w r)) q (by omega)
    have e1 : fs1 M r (o r) (w r) 10 = plM (hx_u M 10 r 0) r 0 (opC (o r) (w r)) 10 := hx_u_ne _ _ _ (by omega)
    have e2 : plM (hx_u M 10 r 0) r 0 (opC (o r) (w r)) 10 r = nI (0 + (opC (o r) (w r)).length) := plM_n r _ _ 0 (by rw [hx_u_same]; exact if_pos rfl)
    refine ⟨fun h => ?_, fun h => ?_⟩
    · show fsF o w r (fs1 M r (o r) (w r)) 10 q = _
      rcases Nat.lt_or_ge q r with h1 | h1
      · exact ih.1 h1
      · have hq : q = r := by omega
        rw [ih.2 h1, e1, hq, e2, Nat.zero_add]
    · show fsF o w r (fs1 M r (o r) (w r)) 10 q = _
      rw [ih.2 (by omega), e1]
      have : ∀ (l : List (Int32 × Int32)) (M : MI) (a : Nat), plM M r a l 10 q = M 10 q := by
        intro l
        induction l with
        | nil => exact fun _ _ => rfl
        | cons x l ihl =>
          intro M a
          show plM _ r (a + 1) l 10 q = _
          rw [ihl, hx_u_same]
          unfold upd
          rw [if_neg (by omega), hx_u_ne _ _ _ (by omega), hx_u_ne _ _ _ (by omega)]
      rw [this, hx_u_same]
      unfold upd
      rw [if_neg (by omega)]
theorem ff0_ne {I : MI} {Q p a : Nat} (h : ¬ scrC a) : ff0 I Q p a = I a := by
  unfold scrC at h
  have h2 : a ≠ 2 := by omega
  have h13 : a ≠ 13 := by omega
  exact (hx_u_ne _ Q 0 h13).trans ((hx_u_ne _ 8 0 h2).trans ((hx_u_ne _ 7 (-1000000) h2).trans (hx_u_ne _ 9 (I 6 p) h2)))
theorem hx_m1 (x : Int32) : x + Int32.ofInt (-1) = x - 1 := by
  rw [show Int32.ofInt (-1) = -(1 : Int32) from by decide]
  exact (Int32.sub_eq_add_neg x 1).symm
end
section
/-! the search: its methods' contracts -/
set_option maxHeartbeats 400000 in
theorem c_X3_triedIsLess {l : Launch} {D : va_G} {ad : Nat → Nat} {cy : Nat → ClassId} (hi : hx_inj ad) (I : MI) (J : MJ) (s : SS) (Q : Nat) (hQ : I 1 1 = nI Q) (hQ6 : Q ≤ 6) : Ct l D ad cy yX3_triedIsLess cX3_triedIsLess 2 (some .boolean) 0 [.ref (ad 2)] (smM I s) J (hx_is (some (.int (lxF s.1 s.2.1 Q 0))) (smM I s) J) := by
  refine ct_start hi (by decide +kernel) (Nat.le_of_ble_eq_true rfl) (fun X hX hT => ?_)
  show X 0 [(0, .ref (ad 2))] [] (smM I s) J
  obtain ⟨res, hres⟩ : ∃ z : Int32, z = lxF s.1 s.2.1 Q 0 := ⟨_, rfl⟩
  rw [← hres] at hT
  have L : ∀ (m q : Nat), q + m = Q → lxF s.1 s.2.1 m q = res → X 2 [(0, .ref (ad 2)), (1, .int (nI q))] [] (smM I s) J := by
    intro m
    induction m with
    | zero =>
      intro q hq hg
      refine wl_iload_n hX 1 rfl dX3_triedIsLess_2 ?_
      refine wl_aload_n hX 0 rfl dX3_triedIsLess_3 ?_
      refine gf_X3_0 hX tb_94 dX3_triedIsLess_4 ?_
      refine gf_X1_1 hX tb_53 dX3_triedIsLess_7 ?_
      refine wl_eqi (y := nI Q) hQ ?_
      refine wl_icmp_ge hX (tgt := 55) dX3_triedIsLess_10 (by decide) (fun h9 => ?_) (fun h9 => absurd ((nI_leI (by omega) (by omega)).mpr (by omega)) h9)
      refine wl_iconst hX (v := 0) dX3_triedIsLess_55 (by decide) ?_
      exact wl_zreturn hT dX3_triedIsLess_56 (by decide) (hx_ri hg)
    | succ m ih =>
      intro q hq hg
      have hg2 : (if s.1 q = s.2.1 q then lxF s.1 s.2.1 m (q + 1) else if s.1 q < s.2.1 q then (1 : Int32) else 0) = res := hg
      refine wl_iload_n hX 1 rfl dX3_triedIsLess_2 ?_
      refine wl_aload_n hX 0 rfl dX3_triedIsLess_3 ?_
      refine gf_X3_0 hX tb_94 dX3_triedIsLess_4 ?_
      refine gf_X1_1 hX tb_53 dX3_triedIsLess_7 ?_
      refine wl_eqi (y := nI Q) hQ ?_
      refine wl_icmp_ge hX (tgt := 55) dX3_triedIsLess_10 (by decide) (fun h9 => absurd h9 (fun z => absurd ((nI_leI (by omega) (by omega)).mp z) (by omega))) (fun h9 => ?_)
      refine wl_aload_n hX 0 rfl dX3_triedIsLess_13 ?_
      refine gf_X3_5 hX tb_99 dX3_triedIsLess_14 ?_
      refine wl_iload_n hX 1 rfl dX3_triedIsLess_17 ?_
      refine wl_iald hX q kc_14 rfl (by omega) dX3_triedIsLess_18 ?_
      refine wl_eqi (y := s.1 q) rfl ?_
      refine wl_aload_n hX 0 rfl dX3_triedIsLess_19 ?_
      refine gf_X3_6 hX tb_100 dX3_triedIsLess_20 ?_
      refine wl_iload_n hX 1 rfl dX3_triedIsLess_23 ?_
      refine wl_iald hX q kc_15 rfl (by omega) dX3_triedIsLess_24 ?_
      refine wl_eqi (y := s.2.1 q) rfl ?_
      refine wl_icmp_eq hX (tgt := 49) dX3_triedIsLess_25 (by decide) (fun h1 => ?_) (fun h1 => ?_)
      · rw [if_pos h1] at hg2
        refine wl_iinc hX (v := nI (q + 1)) (lv' := [(1, .int (nI (q + 1))), (0, .ref (ad 2))]) 1 rfl (nI_1 _) rfl (by decide) dX3_triedIsLess_49 ?_
        refine wl_goto hX (tgt := 2) dX3_triedIsLess_52 (by decide) ?_
        refine wl_sub hX [1, 0] rfl ?_
        exact ih (q + 1) (by omega) hg2
      · rw [if_neg h1] at hg2
        refine wl_aload_n hX 0 rfl dX3_triedIsLess_28 ?_
        refine gf_X3_5 hX tb_99 dX3_triedIsLess_29 ?_
        refine wl_iload_n hX 1 rfl dX3_triedIsLess_32 ?_
        refine wl_iald hX q kc_14 rfl (by omega) dX3_triedIsLess_33 ?_
        refine wl_eqi (y := s.1 q) rfl ?_
        refine wl_aload_n hX 0 rfl dX3_triedIsLess_34 ?_
        refine gf_X3_6 hX tb_100 dX3_triedIsLess_35 ?_
        refine wl_iload_n hX 1 rfl dX3_triedIsLess_38 ?_
        refine wl_iald hX q kc_15 rfl (by omega) dX3_triedIsLess_39 ?_
        refine wl_eqi (y := s.2.1 q) rfl ?_
        refine wl_icmp_ge hX (tgt := 47) dX3_triedIsLess_40 (by decide) (fun h2 => ?_) (fun h2 => ?_)
        · refine wl_iconst hX (v := 0) dX3_triedIsLess_47 (by decide) ?_
          exact wl_zreturn hT dX3_triedIsLess_48 (by decide) (hx_ri (by rw [← hg2, if_neg (fun z => by rw [Int32.lt_iff_toInt_lt] at z; rw [Int32.le_iff_toInt_le] at h2; omega)]))
        · refine wl_iconst hX (v := 1) dX3_triedIsLess_43 (by decide) ?_
          refine wl_goto hX (tgt := 48) dX3_triedIsLess_44 (by decide) ?_
          exact wl_zreturn hT dX3_triedIsLess_48 (by decide) (hx_ri (by rw [← hg2, if_pos (by rw [Int32.le_iff_toInt_le] at h2; rw [Int32.lt_iff_toInt_lt]; omega)]))
  refine wl_iconst hX (v := 0) dX3_triedIsLess_0 (by decide) ?_
  refine wl_istore_n hX (lv' := [(1, .int 0), (0, .ref (ad 2))]) rfl (by decide) dX3_triedIsLess_1 ?_
  refine wl_sub hX [1, 0] rfl ?_
  exact L Q 0 (by omega) hres.symm

set_option maxHeartbeats 400000 in
theorem c_X3_keepIfBetter {l : Launch} {D : va_G} {ad : Nat → Nat} {cy : Nat → ClassId} (hi : hx_inj ad) (I : MI) (J : MJ) (s : SS) (g c : Int32) (Q : Nat) (hQ : I 1 1 = nI Q) (hQ6 : Q ≤ 6) : Ct l D ad cy yX3_keepIfBetter cX3_keepIfBetter 3 none 1 [.ref (ad 2), .int g, .int c] (smM I s) J (hx_is none (smM I (kbF Q s g c)) J) := by
  refine ct_start hi (by decide +kernel) (Nat.le_of_ble_eq_true rfl) (fun X hX hT => ?_)
  show X 0 [(0, .ref (ad 2)), (1, .int g), (2, .int c)] [] (smM I s) J
  have K : (¬ g < s.2.2.1) → (¬ (g = s.2.2.1 ∧ (s.2.2.2 < c ∨ (c = s.2.2.2 ∧ lxF s.1 s.2.1 Q 0 = 0)))) → X 41 [(0, .ref (ad 2)), (1, .int g), (2, .int c)] [] (smM I s) J := by
    intro k1 k2
    have e9 : kbF Q s g c = (s.1, va_cpy s.1 s.2.1 0 0 Q, g, c) := by
      unfold kbF
      rw [if_neg k1, if_neg k2]
    refine wl_aload_n hX 0 rfl dX3_keepIfBetter_41 ?_
    refine wl_iload_n hX 1 rfl dX3_keepIfBetter_42 ?_
    refine pf_X3_7 hX tb_102 dX3_keepIfBetter_43 ?_
    refine wl_mem (I' := (smM I (s.1, s.2.1, g, s.2.2.2))) (smM_g I s g) rfl ?_
    refine wl_aload_n hX 0 rfl dX3_keepIfBetter_46 ?_
    refine wl_iload_n hX 2 rfl dX3_keepIfBetter_47 ?_
    refine pf_X3_8 hX tb_105 dX3_keepIfBetter_48 ?_
    refine wl_mem (I' := (smM I (s.1, s.2.1, g, c))) (smM_c I (s.1, s.2.1, g, s.2.2.2) c) rfl ?_
    refine wl_aload_n hX 0 rfl dX3_keepIfBetter_51 ?_
    refine gf_X3_5 hX tb_99 dX3_keepIfBetter_52 ?_
    refine wl_iconst hX (v := 0) dX3_keepIfBetter_55 (by decide) ?_
    refine wl_aload_n hX 0 rfl dX3_keepIfBetter_56 ?_
    refine gf_X3_6 hX tb_100 dX3_keepIfBetter_57 ?_
    refine wl_iconst hX (v := 0) dX3_keepIfBetter_60 (by decide) ?_
    refine wl_aload_n hX 0 rfl dX3_keepIfBetter_61 ?_
    refine gf_X3_0 hX tb_94 dX3_keepIfBetter_62 ?_
    refine gf_X1_1 hX tb_53 dX3_keepIfBetter_65 ?_
    refine wl_eqi (y := nI Q) hQ ?_
    refine wl_copy hX (n := Q) kc_14 kc_15 rfl rfl rfl (by omega) (by omega) (by omega) tb_331 tb_333 tb_332 tb_32 dX3_keepIfBetter_68 ?_
    refine wl_mem (I' := (smM I (s.1, va_cpy s.1 s.2.1 0 0 Q, g, c))) (smM_f I (s.1, s.2.1, g, c) Q) rfl ?_
    exact wl_return hT dX3_keepIfBetter_71 ⟨rfl, by rw [e9], rfl⟩
  refine wl_iload_n hX 1 rfl dX3_keepIfBetter_0 ?_
  refine wl_aload_n hX 0 rfl dX3_keepIfBetter_1 ?_
  refine gf_X3_7 hX tb_102 dX3_keepIfBetter_2 ?_
  refine wl_eqi (y := s.2.2.1) rfl ?_
  refine wl_icmp_ge hX (tgt := 9) dX3_keepIfBetter_5 (by decide) (fun h1 => ?_) (fun h1 => ?_)
  · have k1 : ¬ g < s.2.2.1 := (fun z => by rw [Int32.lt_iff_toInt_lt] at z; rw [Int32.le_iff_toInt_le] at h1; omega)
    refine wl_iload_n hX 1 rfl dX3_keepIfBetter_9 ?_
    refine wl_aload_n hX 0 rfl dX3_keepIfBetter_10 ?_
    refine gf_X3_7 hX tb_102 dX3_keepIfBetter_11 ?_
    refine wl_eqi (y := s.2.2.1) rfl ?_
    refine wl_icmp_ne hX (tgt := 41) dX3_keepIfBetter_14 (by decide) (fun h2 => ?_) (fun h2 => ?_)
    · exact K k1 (fun z => h2 z.1)
    · refine wl_iload_n hX 2 rfl dX3_keepIfBetter_17 ?_
      refine wl_aload_n hX 0 rfl dX3_keepIfBetter_18 ?_
      refine gf_X3_8 hX tb_105 dX3_keepIfBetter_19 ?_
      refine wl_eqi (y := s.2.2.2) rfl ?_
      refine wl_icmp_gt hX (tgt := 40) dX3_keepIfBetter_22 (by decide) (fun h3 => ?_) (fun h3 => ?_)
      · have e9 : kbF Q s g c = s := by
          unfold kbF
          rw [if_neg k1, if_pos ⟨h2, Or.inl h3⟩]
        exact wl_return hT dX3_keepIfBetter_40 ⟨rfl, by rw [e9], rfl⟩
      · refine wl_iload_n hX 2 rfl dX3_keepIfBetter_25 ?_
        refine wl_aload_n hX 0 rfl dX3_keepIfBetter_26 ?_
        refine gf_X3_8 hX tb_105 dX3_keepIfBetter_27 ?_
        refine wl_eqi (y := s.2.2.2) rfl ?_
        refine wl_icmp_ne hX (tgt := 41) dX3_keepIfBetter_30 (by decide) (fun h4 => ?_) (fun h4 => ?_)
        · exact K k1 (fun z => z.2.elim h3 (fun y => h4 y.1))
        · refine wl_aload_n hX 0 rfl dX3_keepIfBetter_33 ?_
          refine wl_cVi hX (c_X3_triedIsLess hi I J s Q hQ hQ6) mv_X3_triedIsLess tb_327 (by decide) rfl rfl rfl rfl (by omega) (Nat.le_of_ble_eq_true rfl) dX3_keepIfBetter_34 ?_
          refine wl_if_ne hX (tgt := 41) dX3_keepIfBetter_37 (by decide) (fun h5 => ?_) (fun h5 => ?_)
          · exact K k1 (fun z => z.2.elim h3 (fun y => h5 y.2))
          · have e9 : kbF Q s g c = s := by
              unfold kbF
              rw [if_neg k1, if_pos ⟨h2, Or.inr ⟨h4, h5⟩⟩]
            exact wl_return hT dX3_keepIfBetter_40 ⟨rfl, by rw [e9], rfl⟩
  · have e9 : kbF Q s g c = s := by
      unfold kbF
      rw [if_pos (by rw [Int32.lt_iff_toInt_lt]; rw [Int32.le_iff_toInt_le] at h1; omega)]
    exact wl_return hT dX3_keepIfBetter_8 ⟨rfl, by rw [e9], rfl⟩

set_option maxHeartbeats 400000 in
theorem c_X3_addChoice {l : Launch} {D : va_G} {ad : Nat → Nat} {cy : Nat → ClassId} (hi : hx_inj ad) (I : MI) (J : MJ) (q a : Nat) (v g : Int32) (hq : q < 6) (ha : I 10 q = nI a) (ha3 : a ≤ 3) : Ct l D ad cy yX3_addChoice cX3_addChoice 5 none 0 [.ref (ad 2), .int (nI q), .int v, .int g] I J (hx_is none (plM I q a (adF a v g)) J) := by
  refine ct_start hi (by decide +kernel) (Nat.le_of_ble_eq_true rfl) (fun X hX hT => ?_)
  show X 0 [(0, .ref (ad 2)), (1, .int (nI q)), (2, .int v), (3, .int g)] [] I J
  refine wl_aload_n hX 0 rfl dX3_addChoice_0 ?_
  refine gf_X3_1 hX tb_95 dX3_addChoice_1 ?_
  refine wl_iload_n hX 1 rfl dX3_addChoice_4 ?_
  refine wl_iald hX q kc_10 rfl (by omega) dX3_addChoice_5 ?_
  refine wl_eqi (y := nI a) ha ?_
  refine wl_istore hX (lv' := [(4, .int (nI a)), (0, .ref (ad 2)), (1, .int (nI q)), (2, .int v), (3, .int g)]) rfl (by decide) dX3_addChoice_6 ?_
  refine wl_iload hX 0 rfl dX3_addChoice_8 ?_
  refine wl_iconst hX (v := 3) dX3_addChoice_10 (by decide) ?_
  refine wl_icmp_ge hX (tgt := 26) dX3_addChoice_11 (by decide) (fun h1 => ?_) (fun h1 => ?_)
  · have e9 : adF a v g = [] := if_pos (Or.inl ((nI_leI (a := 3) (by omega) (by omega)).mp h1))
    exact wl_return hT dX3_addChoice_26 ⟨rfl, by rw [e9]; rfl, rfl⟩
  · have k1 : ¬ 3 ≤ a := fun z => h1 ((nI_leI (a := 3) (by omega) (by omega)).mpr z)
    refine wl_iload_n hX 3 rfl dX3_addChoice_14 ?_
    refine wl_bipush hX (v := (-40)) dX3_addChoice_15 (by decide) ?_
    refine wl_icmp_lt hX (tgt := 26) dX3_addChoice_17 (by decide) (fun h2 => ?_) (fun h2 => ?_)
    · have e9 : adF a v g = [] := if_pos (Or.inr (Or.inl h2))
      exact wl_return hT dX3_addChoice_26 ⟨rfl, by rw [e9]; rfl, rfl⟩
    · refine wl_iload_n hX 3 rfl dX3_addChoice_20 ?_
      refine wl_bipush hX (v := 40) dX3_addChoice_21 (by decide) ?_
      refine wl_icmp_le hX (tgt := 27) dX3_addChoice_23 (by decide) (fun h3 => ?_) (fun h3 => ?_)
      · have e9 : adF a v g = [(v, g)] := if_neg (fun z => z.elim k1 (fun y => y.elim h2 (fun x => by rw [Int32.lt_iff_toInt_lt] at x; rw [Int32.le_iff_toInt_le] at h3; omega)))
        refine wl_aload_n hX 1 rfl dX3_addChoice_27 ?_
        refine gf_X3_2 hX tb_96 dX3_addChoice_28 ?_
        refine wl_iload_n hX 2 rfl dX3_addChoice_31 ?_
        refine wl_aald4 hX q kc_11 rfl (by omega) dX3_addChoice_32 ?_
        refine wl_iload hX 0 rfl dX3_addChoice_33 ?_
        refine wl_iload_n hX 3 rfl dX3_addChoice_35 ?_
        refine wl_iast hX a (kd_57 (by omega)) rfl (by omega) dX3_addChoice_36 ?_
        refine wl_aload_n hX 1 rfl dX3_addChoice_37 ?_
        refine gf_X3_3 hX tb_97 dX3_addChoice_38 ?_
        refine wl_iload_n hX 2 rfl dX3_addChoice_41 ?_
        refine wl_aald4 hX q kc_12 rfl (by omega) dX3_addChoice_42 ?_
        refine wl_iload hX 0 rfl dX3_addChoice_43 ?_
        refine wl_iload_n hX 4 rfl dX3_addChoice_45 ?_
        refine wl_iast hX a (kd_63 (by omega)) rfl (by omega) dX3_addChoice_46 ?_
        refine wl_aload_n hX 1 rfl dX3_addChoice_47 ?_
        refine gf_X3_1 hX tb_95 dX3_addChoice_48 ?_
        refine wl_iload_n hX 2 rfl dX3_addChoice_51 ?_
        refine wl_dup2_11 hX dX3_addChoice_52 rfl rfl ?_
        refine wl_iald hX q kc_10 rfl (by omega) dX3_addChoice_53 ?_
        refine wl_eqi (y := nI a) (by rw [hx_u_ne _ _ _ (by omega), hx_u_ne _ _ _ (by omega)]; exact ha) ?_
        refine wl_iconst hX (v := 1) dX3_addChoice_54 (by decide) ?_
        refine wl_iadd hX dX3_addChoice_55 ?_
        refine wl_eqi (y := nI (a + 1)) (nI_1 a) ?_
        refine wl_iast hX q kc_10 rfl (by omega) dX3_addChoice_56 ?_
        exact wl_return hT dX3_addChoice_57 ⟨rfl, by rw [e9]; rfl, rfl⟩
      · have e9 : adF a v g = [] := if_pos (Or.inr (Or.inr (by rw [Int32.le_iff_toInt_le] at h3; rw [Int32.lt_iff_toInt_lt]; omega)))
        exact wl_return hT dX3_addChoice_26 ⟨rfl, by rw [e9]; rfl, rfl⟩

set_option maxHeartbeats 400000 in
theorem c_X3_listChoices {l : Launch} {D : va_G} {ad : Nat → Nat} {cy : Nat → ClassId} (hi : hx_inj ad) (I : MI) (J : MJ) (q : Nat) (o w : Int32) (hq : q < 6) : Ct l D ad cy yX3_listChoices cX3_listChoices 6 none 1 [.ref (ad 2), .int (nI q), .int o, .int w] I J (hx_is none (plM (hx_u I 10 q 0) q 0 (opC o w)) J) := by
  refine ct_start hi (by decide +kernel) (Nat.le_of_ble_eq_true rfl) (fun X hX hT => ?_)
  show X 0 [(0, .ref (ad 2)), (1, .int (nI q)), (2, .int o), (3, .int w)] [] I J
  refine wl_aload_n hX 0 rfl dX3_listChoices_0 ?_
  refine gf_X3_1 hX tb_95 dX3_listChoices_1 ?_
  refine wl_iload_n hX 1 rfl dX3_listChoices_4 ?_
  refine wl_iconst hX (v := 0) dX3_listChoices_5 (by decide) ?_
  refine wl_iast hX q kc_10 rfl (by omega) dX3_listChoices_6 ?_
  have n0 : (hx_u I 10 q 0) 10 q = nI 0 := by rw [hx_u_same]; exact if_pos rfl
  have nA := plM_n q (opA o w) (hx_u I 10 q 0) 0 n0
  have lA := opA_len o w
  have nB := plM_n q (opA o w ++ opB o w) (hx_u I 10 q 0) 0 n0
  have lB := opB_len o w
  have lAB : (opA o w ++ opB o w).length ≤ 2 := by rw [List.length_append]; omega
  have K73 : X 73 [(0, .ref (ad 2)), (1, .int (nI q)), (2, .int o), (3, .int w), (4, .int (beF w)), (5, .int (gByF o w))] [] (plM (hx_u I 10 q 0) q 0 (opA o w ++ opB o w)) J := by
    refine wl_aload_n hX 0 rfl dX3_listChoices_73 ?_
    refine wl_iload_n hX 1 rfl dX3_listChoices_74 ?_
    refine wl_iconst hX (v := 0) dX3_listChoices_75 (by decide) ?_
    refine wl_iload hX 5 rfl dX3_listChoices_76 ?_
    refine wl_cVv hX (c_X3_addChoice hi (plM (hx_u I 10 q 0) q 0 (opA o w ++ opB o w)) J q (0 + (opA o w ++ opB o w).length) 0 (gByF o w) hq nB (by omega)) mv_X3_addChoice tb_316 (by decide) rfl rfl rfl rfl (by omega) (Nat.le_of_ble_eq_true rfl) dX3_listChoices_78 ?_
    have e9 : adF (0 + (opA o w ++ opB o w).length) 0 (gByF o w) = [(0, gByF o w)] := if_neg (fun z => z.elim (fun y => by omega) (fun y => y.elim (by decide) (by decide)))
    exact wl_return hT dX3_listChoices_81 ⟨rfl, by rw [e9]; exact (plM_app q [(0, gByF o w)] (opA o w ++ opB o w) _ 0).symm, rfl⟩
  have K51 : X 51 [(0, .ref (ad 2)), (1, .int (nI q)), (2, .int o), (3, .int w), (4, .int (beF w)), (5, .int (gByF o w))] [] (plM (hx_u I 10 q 0) q 0 (opA o w)) J := by
    refine wl_iconst hX (v := 0) dX3_listChoices_51 (by decide) ?_
    refine wl_iload_n hX 3 rfl dX3_listChoices_52 ?_
    refine wl_cSi hX (c_X1_gainBy hi (plM (hx_u I 10 q 0) q 0 (opA o w)) J 0 w) mv_X1_gainBy tb_315 rfl rfl (by omega) (Nat.le_of_ble_eq_true rfl) dX3_listChoices_53 ?_
    refine wl_iload hX 5 rfl dX3_listChoices_56 ?_
    refine wl_icmp_le hX (tgt := 73) dX3_listChoices_58 (by decide) (fun h1 => ?_) (fun h1 => ?_)
    · have e9 : opB o w = [] := if_neg (fun z => by have z1 := z.1; rw [Int32.lt_iff_toInt_lt] at z1; rw [Int32.le_iff_toInt_le] at h1; omega)
      rw [e9, List.append_nil] at K73
      exact K73
    · have k1 : gByF o w < gByF 0 w := by rw [Int32.lt_iff_toInt_lt]; rw [Int32.le_iff_toInt_le] at h1; omega
      refine wl_aload_n hX 0 rfl dX3_listChoices_61 ?_
      refine wl_iload_n hX 1 rfl dX3_listChoices_62 ?_
      refine wl_iload_n hX 2 rfl dX3_listChoices_63 ?_
      refine wl_ineg hX dX3_listChoices_64 ?_
      refine wl_iconst hX (v := 0) dX3_listChoices_65 (by decide) ?_
      refine wl_iload_n hX 3 rfl dX3_listChoices_66 ?_
      refine wl_cSi hX (c_X1_gainBy hi (plM (hx_u I 10 q 0) q 0 (opA o w)) J 0 w) mv_X1_gainBy tb_315 rfl rfl (by omega) (Nat.le_of_ble_eq_true rfl) dX3_listChoices_67 ?_
      refine wl_cVv hX (c_X3_addChoice hi (plM (hx_u I 10 q 0) q 0 (opA o w)) J q (0 + (opA o w).length) (-o) (gByF 0 w) hq nA (by omega)) mv_X3_addChoice tb_316 (by decide) rfl rfl rfl rfl (by omega) (Nat.le_of_ble_eq_true rfl) dX3_listChoices_70 ?_
      have e9 : adF (0 + (opA o w).length) (-o) (gByF 0 w) = opB o w := by
        unfold adF opB
        by_cases k2 : -o < (-40) ∨ 40 < -o
        · rw [if_pos (Or.inr k2), if_neg (fun z => z.2 k2)]
        · rw [if_neg (fun z => z.elim (fun y => by omega) k2), if_pos ⟨k1, k2⟩]
      rw [e9, ← plM_app]
      exact K73
  have K16 : X 16 [(0, .ref (ad 2)), (1, .int (nI q)), (2, .int o), (3, .int w)] [.int (beF w)] (hx_u I 10 q 0) J := by
    refine wl_istore hX (lv' := [(4, .int (beF w)), (0, .ref (ad 2)), (1, .int (nI q)), (2, .int o), (3, .int w)]) rfl (by decide) dX3_listChoices_16 ?_
    refine wl_iload_n hX 3 rfl dX3_listChoices_18 ?_
    refine wl_iload_n hX 4 rfl dX3_listChoices_19 ?_
    refine wl_cSi hX (c_X1_gainBy hi (hx_u I 10 q 0) J o w) mv_X1_gainBy tb_315 rfl rfl (by omega) (Nat.le_of_ble_eq_true rfl) dX3_listChoices_20 ?_
    refine wl_istore hX (lv' := [(5, .int (gByF o w)), (4, .int (beF w)), (0, .ref (ad 2)), (1, .int (nI q)), (2, .int o), (3, .int w)]) rfl (by decide) dX3_listChoices_23 ?_
    refine wl_iload hX 1 rfl dX3_listChoices_25 ?_
    refine wl_iload_n hX 5 rfl dX3_listChoices_27 ?_
    refine wl_cSi hX (c_X1_gainBy hi (hx_u I 10 q 0) J (beF w) w) mv_X1_gainBy tb_315 rfl rfl (by omega) (Nat.le_of_ble_eq_true rfl) dX3_listChoices_28 ?_
    refine wl_iload hX 0 rfl dX3_listChoices_31 ?_
    refine wl_icmp_le hX (tgt := 51) dX3_listChoices_33 (by decide) (fun h1 => ?_) (fun h1 => ?_)
    · have e9 : opA o w = [] := if_neg (fun z => by have z1 := z.1; rw [Int32.lt_iff_toInt_lt] at z1; rw [Int32.le_iff_toInt_le] at h1; omega)
      rw [e9] at K51
      refine wl_sub hX [2, 3, 4, 5, 1, 0] rfl ?_
      exact K51
    · have k1 : gByF o w < gByF (beF w) w := by rw [Int32.lt_iff_toInt_lt]; rw [Int32.le_iff_toInt_le] at h1; omega
      refine wl_aload_n hX 2 rfl dX3_listChoices_36 ?_
      refine wl_iload_n hX 3 rfl dX3_listChoices_37 ?_
      refine wl_iload hX 1 rfl dX3_listChoices_38 ?_
      refine wl_iload_n hX 4 rfl dX3_listChoices_40 ?_
      refine wl_isub hX dX3_listChoices_41 ?_
      refine wl_iload hX 1 rfl dX3_listChoices_42 ?_
      refine wl_iload_n hX 5 rfl dX3_listChoices_44 ?_
      refine wl_cSi hX (c_X1_gainBy hi (hx_u I 10 q 0) J (beF w) w) mv_X1_gainBy tb_315 rfl rfl (by omega) (Nat.le_of_ble_eq_true rfl) dX3_listChoices_45 ?_
      refine wl_cVv hX (c_X3_addChoice hi (hx_u I 10 q 0) J q 0 (beF w - o) (gByF (beF w) w) hq n0 (by omega)) mv_X3_addChoice tb_316 (by decide) rfl rfl rfl rfl (by omega) (Nat.le_of_ble_eq_true rfl) dX3_listChoices_48 ?_
      have e9 : adF 0 (beF w - o) (gByF (beF w) w) = opA o w := by
        unfold adF opA
        by_cases k2 : beF w - o < (-40) ∨ 40 < beF w - o
        · rw [if_pos (Or.inr k2), if_neg (fun z => z.2 k2)]
        · rw [if_neg (fun z => z.elim (fun y => by omega) k2), if_pos ⟨k1, k2⟩]
      rw [e9]
      refine wl_sub hX [2, 3, 4, 5, 1, 0] rfl ?_
      exact K51
  refine wl_iload_n hX 3 rfl dX3_listChoices_7 ?_
  refine wl_if_le hX (tgt := 15) dX3_listChoices_8 (by decide) (fun h1 => ?_) (fun h1 => ?_)
  · refine wl_iconst hX (v := (-1)) dX3_listChoices_15 (by decide) ?_
    refine wl_eqi (y := beF w) (if_neg (fun z => by rw [Int32.lt_iff_toInt_lt] at z; rw [Int32.le_iff_toInt_le] at h1; omega)).symm ?_
    exact K16
  · refine wl_iconst hX (v := 1) dX3_listChoices_11 (by decide) ?_
    refine wl_goto hX (tgt := 16) dX3_listChoices_12 (by decide) ?_
    refine wl_eqi (y := beF w) (if_pos (by rw [Int32.lt_iff_toInt_lt]; rw [Int32.le_iff_toInt_le] at h1; omega)).symm ?_
    exact K16

set_option maxHeartbeats 1000000 in
theorem c_X3_tryFrom {l : Launch} {D : va_G} {ad : Nat → Nat} {cy : Nat → ClassId} (hi : hx_inj ad) (I : MI) (J : MJ) (Q : Nat) (hQ : I 1 1 = nI Q) (hQ6 : Q ≤ 6) (n : Nat → Nat) (hn : ∀ q, q < Q → I 10 q = nI (n q) ∧ n q ≤ 3) : ∀ (d q : Nat) (s : SS) (g c : Int32), q + d = Q → Ct l D ad cy yX3_tryFrom cX3_tryFrom 7 none (2 + d) [.ref (ad 2), .int (nI q), .int g, .int c] (smM I s) J (hx_is none (smM I (tryF Q n (oV I) (oG I) (I 13) (I 2 9) d q s g c)) J) := by
  intro d
  induction d with
  | zero =>
    intro q s g c hq
    refine ct_start hi (by decide +kernel) (Nat.le_of_ble_eq_true rfl) (fun X hX hT => ?_)
    show X 0 [(0, .ref (ad 2)), (1, .int (nI q)), (2, .int g), (3, .int c)] [] (smM I s) J
    refine wl_iload_n hX 1 rfl dX3_tryFrom_0 ?_
    refine wl_aload_n hX 0 rfl dX3_tryFrom_1 ?_
    refine gf_X3_0 hX tb_94 dX3_tryFrom_2 ?_
    refine gf_X1_1 hX tb_53 dX3_tryFrom_5 ?_
    refine wl_eqi (y := nI Q) hQ ?_
    refine wl_icmp_lt hX (tgt := 18) dX3_tryFrom_8 (by decide) (fun h9 => absurd h9 (fun z => absurd ((nI_ltI (by omega) (by omega)).mp z) (by omega))) (fun h9 => ?_)
    refine wl_aload_n hX 0 rfl dX3_tryFrom_11 ?_
    refine wl_iload_n hX 2 rfl dX3_tryFrom_12 ?_
    refine wl_iload_n hX 3 rfl dX3_tryFrom_13 ?_
    refine wl_cVv hX (c_X3_keepIfBetter hi I J s g c Q hQ hQ6) mv_X3_keepIfBetter tb_323 (by decide) rfl rfl rfl rfl (by omega) (Nat.le_of_ble_eq_true rfl) dX3_tryFrom_14 ?_
    exact wl_return hT dX3_tryFrom_17 ⟨rfl, rfl, rfl⟩
  | succ d ih =>
    intro q s g c hq
    have hq2 : q < Q := by omega
    have hn3 := (hn q hq2).2
    refine ct_start hi (by decide +kernel) (Nat.le_of_ble_eq_true rfl) (fun X hX hT => ?_)
    have e8 : tryF Q n (oV I) (oG I) (I 13) (I 2 9) (d + 1) q s g c = if g + I 13 q < s.2.2.1 ∨ (g + I 13 q = s.2.2.1 ∧ s.2.2.2 < c) then s else foF (stF (tryF Q n (oV I) (oG I) (I 13) (I 2 9) d (q + 1)) (oV I q) (oG I q) (I 2 9) g c q) (n q) s := rfl
    show X 0 [(0, .ref (ad 2)), (1, .int (nI q)), (2, .int g), (3, .int c)] [] (smM I s) J
    refine wl_iload_n hX 1 rfl dX3_tryFrom_0 ?_
    refine wl_aload_n hX 0 rfl dX3_tryFrom_1 ?_
    refine gf_X3_0 hX tb_94 dX3_tryFrom_2 ?_
    refine gf_X1_1 hX tb_53 dX3_tryFrom_5 ?_
    refine wl_eqi (y := nI Q) hQ ?_
    refine wl_icmp_lt hX (tgt := 18) dX3_tryFrom_8 (by decide) (fun h9 => ?_) (fun h9 => absurd ((nI_ltI (by omega) (by omega)).mpr (by omega)) h9)
    refine wl_iload_n hX 2 rfl dX3_tryFrom_18 ?_
    refine wl_aload_n hX 0 rfl dX3_tryFrom_19 ?_
    refine gf_X3_4 hX tb_98 dX3_tryFrom_20 ?_
    refine wl_iload_n hX 1 rfl dX3_tryFrom_23 ?_
    refine wl_iald hX q kc_13 rfl (by omega) dX3_tryFrom_24 ?_
    refine wl_eqi (y := I 13 q) rfl ?_
    refine wl_iadd hX dX3_tryFrom_25 ?_
    have K : ¬ (g + I 13 q < s.2.2.1 ∨ (g + I 13 q = s.2.2.1 ∧ s.2.2.2 < c)) → X 55 [(4, .int (g + I 13 q)), (0, .ref (ad 2)), (1, .int (nI q)), (2, .int g), (3, .int c)] [] (smM I s) J := by
      intro k1
      rw [if_neg k1] at e8
      rw [e8] at hT
      refine wl_iconst hX (v := 0) dX3_tryFrom_55 (by decide) ?_
      refine wl_istore hX (lv' := [(5, .int 0), (4, .int (g + I 13 q)), (0, .ref (ad 2)), (1, .int (nI q)), (2, .int g), (3, .int c)]) rfl (by decide) dX3_tryFrom_56 ?_
      refine wl_sub hX [2, 3, 4, 5, 1, 0] rfl ?_
      have L : ∀ (k i : Nat), i ≤ (n q) → (n q) - i < k → X 58 [(0, .ref (ad 2)), (1, .int (nI q)), (2, .int g), (3, .int c), (4, .int (g + I 13 q)), (5, .int (nI i))] [] (smM I (foF (stF (tryF Q n (oV I) (oG I) (I 13) (I 2 9) d (q + 1)) (oV I q) (oG I q) (I 2 9) g c q) i s)) J := by
        intro k
        induction k with
        | zero => exact fun _  _ h => absurd h (Nat.not_lt_zero _)
        | succ k ihL =>
          intro i  hin hik
          refine wl_iload hX 5 rfl dX3_tryFrom_58 ?_
          refine wl_aload_n hX 0 rfl dX3_tryFrom_60 ?_
          refine gf_X3_1 hX tb_95 dX3_tryFrom_61 ?_
          refine wl_iload_n hX 1 rfl dX3_tryFrom_64 ?_
          refine wl_iald hX q kc_10 rfl (by omega) dX3_tryFrom_65 ?_
          refine wl_eqi (y := nI (n q)) (hn q (by omega)).1 ?_
          refine wl_icmp_ge hX (tgt := 133) dX3_tryFrom_66 (by decide) (fun hic => ?_) (fun hic => ?_)
          · have hie : i = (n q) := by
              have h9 := (nI_leI (by omega) (by omega)).mp hic
              omega
            exact wl_return hT dX3_tryFrom_133 ⟨rfl, by rw [hie], rfl⟩
          · have hi1 : i < (n q) := Nat.lt_of_not_le (fun z => hic ((nI_leI (by omega) (by omega)).mpr z))
            have e2 : foF (stF (tryF Q n (oV I) (oG I) (I 13) (I 2 9) d (q + 1)) (oV I q) (oG I q) (I 2 9) g c q) (i + 1) s = if I 2 9 < c + oV I q i * oV I q i then foF (stF (tryF Q n (oV I) (oG I) (I 13) (I 2 9) d (q + 1)) (oV I q) (oG I q) (I 2 9) g c q) i s else tryF Q n (oV I) (oG I) (I 13) (I 2 9) d (q + 1) (upd (foF (stF (tryF Q n (oV I) (oG I) (I 13) (I 2 9) d (q + 1)) (oV I q) (oG I q) (I 2 9) g c q) i s).1 q (oV I q i), (foF (stF (tryF Q n (oV I) (oG I) (I 13) (I 2 9) d (q + 1)) (oV I q) (oG I q) (I 2 9) g c q) i s).2) (g + oG I q i) (c + oV I q i * oV I q i) := rfl
            refine wl_aload_n hX 0 rfl dX3_tryFrom_69 ?_
            refine gf_X3_2 hX tb_96 dX3_tryFrom_70 ?_
            refine wl_iload_n hX 1 rfl dX3_tryFrom_73 ?_
            refine wl_aald4 hX q kc_11 rfl (by omega) dX3_tryFrom_74 ?_
            refine wl_iload hX 5 rfl dX3_tryFrom_75 ?_
            refine wl_iald hX i (kd_57 (by omega)) rfl (by omega) dX3_tryFrom_77 ?_
            refine wl_eqi (y := oV I q i) (by rw [smM_ne (by omega) (by omega) (by omega)]; rfl) ?_
            refine wl_istore hX (lv' := [(6, .int (oV I q i)), (0, .ref (ad 2)), (1, .int (nI q)), (2, .int g), (3, .int c), (4, .int (g + I 13 q)), (5, .int (nI i))]) rfl (by decide) dX3_tryFrom_78 ?_
            refine wl_iload_n hX 4 rfl dX3_tryFrom_80 ?_
            refine wl_iload hX 0 rfl dX3_tryFrom_81 ?_
            refine wl_iload hX 0 rfl dX3_tryFrom_83 ?_
            refine wl_imul hX dX3_tryFrom_85 ?_
            refine wl_iadd hX dX3_tryFrom_86 ?_
            refine wl_aload_n hX 1 rfl dX3_tryFrom_87 ?_
            refine gf_X3_9 hX tb_106 dX3_tryFrom_88 ?_
            refine wl_eqi (y := I 2 9) rfl ?_
            refine wl_icmp_gt hX (tgt := 127) dX3_tryFrom_91 (by decide) (fun h2 => ?_) (fun h2 => ?_)
            · rw [if_pos h2] at e2
              rw [← e2]
              refine wl_iinc hX (v := nI (i + 1)) (lv' := [(5, .int (nI (i + 1))), (6, .int (oV I q i)), (0, .ref (ad 2)), (1, .int (nI q)), (2, .int g), (3, .int c), (4, .int (g + I 13 q))]) 6 rfl (nI_1 _) rfl (by decide) dX3_tryFrom_127 ?_
              refine wl_goto hX (tgt := 58) dX3_tryFrom_130 (by decide) ?_
              refine wl_sub hX [2, 3, 4, 5, 6, 0] rfl ?_
              exact ihL (i + 1) (by omega) (by omega)
            · rw [if_neg h2] at e2
              refine wl_aload_n hX 1 rfl dX3_tryFrom_94 ?_
              refine gf_X3_5 hX tb_99 dX3_tryFrom_95 ?_
              refine wl_iload_n hX 2 rfl dX3_tryFrom_98 ?_
              refine wl_iload hX 0 rfl dX3_tryFrom_99 ?_
              refine wl_iast hX q kc_14 rfl (by omega) dX3_tryFrom_101 ?_
              refine wl_mem (I' := (smM I (upd (foF (stF (tryF Q n (oV I) (oG I) (I 13) (I 2 9) d (q + 1)) (oV I q) (oG I q) (I 2 9) g c q) i s).1 q (oV I q i), (foF (stF (tryF Q n (oV I) (oG I) (I 13) (I 2 9) d (q + 1)) (oV I q) (oG I q) (I 2 9) g c q) i s).2))) (smM_t I (foF (stF (tryF Q n (oV I) (oG I) (I 13) (I 2 9) d (q + 1)) (oV I q) (oG I q) (I 2 9) g c q) i s) q (oV I q i)) rfl ?_
              refine wl_aload_n hX 1 rfl dX3_tryFrom_102 ?_
              refine wl_iload_n hX 2 rfl dX3_tryFrom_103 ?_
              refine wl_iconst hX (v := 1) dX3_tryFrom_104 (by decide) ?_
              refine wl_iadd hX dX3_tryFrom_105 ?_
              refine wl_eqi (y := nI (q + 1)) (nI_1 q) ?_
              refine wl_iload_n hX 3 rfl dX3_tryFrom_106 ?_
              refine wl_aload_n hX 1 rfl dX3_tryFrom_107 ?_
              refine gf_X3_3 hX tb_97 dX3_tryFrom_108 ?_
              refine wl_iload_n hX 2 rfl dX3_tryFrom_111 ?_
              refine wl_aald4 hX q kc_12 rfl (by omega) dX3_tryFrom_112 ?_
              refine wl_iload hX 6 rfl dX3_tryFrom_113 ?_
              refine wl_iald hX i (kd_63 (by omega)) rfl (by omega) dX3_tryFrom_115 ?_
              refine wl_eqi (y := oG I q i) (by rw [smM_ne (by omega) (by omega) (by omega)]; rfl) ?_
              refine wl_iadd hX dX3_tryFrom_116 ?_
              refine wl_iload_n hX 4 rfl dX3_tryFrom_117 ?_
              refine wl_iload hX 0 rfl dX3_tryFrom_118 ?_
              refine wl_iload hX 0 rfl dX3_tryFrom_120 ?_
              refine wl_imul hX dX3_tryFrom_122 ?_
              refine wl_iadd hX dX3_tryFrom_123 ?_
              refine wl_cSv hX (ih (q + 1) (upd (foF (stF (tryF Q n (oV I) (oG I) (I 13) (I 2 9) d (q + 1)) (oV I q) (oG I q) (I 2 9) g c q) i s).1 q (oV I q i), (foF (stF (tryF Q n (oV I) (oG I) (I 13) (I 2 9) d (q + 1)) (oV I q) (oG I q) (I 2 9) g c q) i s).2) (g + oG I q i) (c + oV I q i * oV I q i) (by omega)) mv_X3_tryFrom tb_320 rfl rfl (by omega) (Nat.le_of_ble_eq_true rfl) dX3_tryFrom_124 ?_
              rw [← e2]
              refine wl_iinc hX (v := nI (i + 1)) (lv' := [(5, .int (nI (i + 1))), (6, .int (oV I q i)), (0, .ref (ad 2)), (1, .int (nI q)), (2, .int g), (3, .int c), (4, .int (g + I 13 q))]) 6 rfl (nI_1 _) rfl (by decide) dX3_tryFrom_127 ?_
              refine wl_goto hX (tgt := 58) dX3_tryFrom_130 (by decide) ?_
              refine wl_sub hX [2, 3, 4, 5, 6, 0] rfl ?_
              exact ihL (i + 1) (by omega) (by omega)
      exact L ((n q) + 1) 0 (by omega) (by omega)
    refine wl_istore hX (lv' := [(4, .int (g + (I 13 q))), (0, .ref (ad 2)), (1, .int (nI q)), (2, .int g), (3, .int c)]) rfl (by decide) dX3_tryFrom_26 ?_
    refine wl_iload hX 0 rfl dX3_tryFrom_28 ?_
    refine wl_aload_n hX 1 rfl dX3_tryFrom_30 ?_
    refine gf_X3_7 hX tb_102 dX3_tryFrom_31 ?_
    refine wl_eqi (y := s.2.2.1) rfl ?_
    refine wl_icmp_lt hX (tgt := 54) dX3_tryFrom_34 (by decide) (fun h1 => ?_) (fun h1 => ?_)
    · rw [if_pos (Or.inl h1)] at e8
      exact wl_return hT dX3_tryFrom_54 ⟨rfl, by rw [e8], rfl⟩
    · refine wl_iload hX 0 rfl dX3_tryFrom_37 ?_
      refine wl_aload_n hX 1 rfl dX3_tryFrom_39 ?_
      refine gf_X3_7 hX tb_102 dX3_tryFrom_40 ?_
      refine wl_eqi (y := s.2.2.1) rfl ?_
      refine wl_icmp_ne hX (tgt := 55) dX3_tryFrom_43 (by decide) (fun h2 => ?_) (fun h2 => ?_)
      · exact K (fun z => z.elim h1 (fun y => h2 y.1))
      · refine wl_iload_n hX 4 rfl dX3_tryFrom_46 ?_
        refine wl_aload_n hX 1 rfl dX3_tryFrom_47 ?_
        refine gf_X3_8 hX tb_105 dX3_tryFrom_48 ?_
        refine wl_eqi (y := s.2.2.2) rfl ?_
        refine wl_icmp_le hX (tgt := 55) dX3_tryFrom_51 (by decide) (fun h3 => ?_) (fun h3 => ?_)
        · exact K (fun z => z.elim h1 (fun y => by have y2 := y.2; rw [Int32.lt_iff_toInt_lt] at y2; rw [Int32.le_iff_toInt_le] at h3; omega))
        · rw [if_pos (Or.inr ⟨h2, by rw [Int32.lt_iff_toInt_lt]; rw [Int32.le_iff_toInt_le] at h3; omega⟩)] at e8
          exact wl_return hT dX3_tryFrom_54 ⟨rfl, by rw [e8], rfl⟩

set_option maxHeartbeats 400000 in
theorem c_X3_giveTo {l : Launch} {D : va_G} {ad : Nat → Nat} {cy : Nat → ClassId} (hi : hx_inj ad) (I : MI) (J : MJ) (p : Nat) (hp : p < 12) (Q : Nat) (hQ : I 1 1 = nI Q) (hQ6 : Q ≤ 6) : Ct l D ad cy yX3_giveTo cX3_giveTo 2 none 1 [.ref (ad 2), .int (nI p)] I J (hx_is none (hx_cp I 15 (33 + p) Q) J) := by
  refine ct_start hi (by decide +kernel) (Nat.le_of_ble_eq_true rfl) (fun X hX hT => ?_)
  show X 0 [(0, .ref (ad 2)), (1, .int (nI p))] [] I J
  refine wl_aload_n hX 0 rfl dX3_giveTo_0 ?_
  refine gf_X3_6 hX tb_100 dX3_giveTo_1 ?_
  refine wl_iconst hX (v := 0) dX3_giveTo_4 (by decide) ?_
  refine wl_aload_n hX 0 rfl dX3_giveTo_5 ?_
  refine gf_X3_0 hX tb_94 dX3_giveTo_6 ?_
  refine gf_X1_5 hX tb_65 dX3_giveTo_9 ?_
  refine wl_iload_n hX 1 rfl dX3_giveTo_12 ?_
  refine wl_aald4 hX p kc_8 rfl (by omega) dX3_giveTo_13 ?_
  refine wl_iconst hX (v := 0) dX3_giveTo_14 (by decide) ?_
  refine wl_aload_n hX 0 rfl dX3_giveTo_15 ?_
  refine gf_X3_0 hX tb_94 dX3_giveTo_16 ?_
  refine gf_X1_1 hX tb_53 dX3_giveTo_19 ?_
  refine wl_eqi (y := nI Q) hQ ?_
  refine wl_copy hX (n := Q) kc_15 (kd_33 (by omega)) rfl rfl rfl (by omega) (by omega) (by omega) tb_331 tb_333 tb_332 tb_32 dX3_giveTo_22 ?_
  exact wl_return hT dX3_giveTo_25 ⟨rfl, rfl, rfl⟩

set_option maxHeartbeats 400000 in
theorem c_X3_findFor {l : Launch} {D : va_G} {ad : Nat → Nat} {cy : Nat → ClassId} (hi : hx_inj ad) (I : MI) (J : MJ) (P : Nat) (hP : I 1 0 = nI P) (hP12 : P ≤ 12) (p : Nat) (hp : p < P) (Q : Nat) (hQ : I 1 1 = nI Q) (hQ6 : Q ≤ 6) : Ct l D ad cy yX3_findFor cX3_findFor 3 none 9 [.ref (ad 2), .int (nI p)] I J (hx_is none (ffM I P Q p) J) := by
  refine ct_start hi (by decide +kernel) (Nat.le_of_ble_eq_true rfl) (fun X hX hT => ?_)
  show X 0 [(0, .ref (ad 2)), (1, .int (nI p))] [] I J
  refine wl_aload_n hX 0 rfl dX3_findFor_0 ?_
  refine wl_aload_n hX 0 rfl dX3_findFor_1 ?_
  refine gf_X3_0 hX tb_94 dX3_findFor_2 ?_
  refine gf_X1_3 hX tb_59 dX3_findFor_5 ?_
  refine wl_iload_n hX 1 rfl dX3_findFor_8 ?_
  refine wl_iald hX p kc_6 rfl (by omega) dX3_findFor_9 ?_
  refine pf_X3_9 hX tb_106 dX3_findFor_10 ?_
  refine wl_aload_n hX 0 rfl dX3_findFor_13 ?_
  refine wl_ldc hX tb_309 dX3_findFor_14 ?_
  refine pf_X3_7 hX tb_102 dX3_findFor_16 ?_
  refine wl_aload_n hX 0 rfl dX3_findFor_19 ?_
  refine wl_iconst hX (v := 0) dX3_findFor_20 (by decide) ?_
  refine pf_X3_8 hX tb_105 dX3_findFor_21 ?_
  refine wl_aload_n hX 0 rfl dX3_findFor_24 ?_
  refine gf_X3_4 hX tb_98 dX3_findFor_25 ?_
  refine wl_aload_n hX 0 rfl dX3_findFor_28 ?_
  refine gf_X3_0 hX tb_94 dX3_findFor_29 ?_
  refine gf_X1_1 hX tb_53 dX3_findFor_32 ?_
  refine wl_eqi (y := nI Q) hQ ?_
  refine wl_iconst hX (v := 0) dX3_findFor_35 (by decide) ?_
  refine wl_iast hX Q kc_13 rfl (by omega) dX3_findFor_36 ?_
  refine wl_aload_n hX 0 rfl dX3_findFor_37 ?_
  refine gf_X3_0 hX tb_94 dX3_findFor_38 ?_
  refine gf_X1_1 hX tb_53 dX3_findFor_41 ?_
  refine wl_eqi (y := nI Q) hQ ?_
  refine wl_iconst hX (v := 1) dX3_findFor_44 (by decide) ?_
  refine wl_isub hX dX3_findFor_45 ?_
  refine wl_istore_n hX (lv' := [(2, .int ((nI Q) - 1)), (0, .ref (ad 2)), (1, .int (nI p))]) rfl (by decide) dX3_findFor_46 ?_
  refine wl_sub hX [1, 2, 0] rfl ?_
  obtain ⟨B, hB⟩ : ∃ B : MI, B = ffB I P Q p := ⟨_, rfl⟩
  have L : ∀ (r : Nat) (M : MI), r ≤ Q → (∀ a, ¬ scrC a → M a = I a) → fsF (ffO I P p) (wC I p) r M = B → X 47 [(0, .ref (ad 2)), (1, .int (nI p)), (2, .int (nI r - 1))] [] M J := by
    intro r
    induction r with
    | zero =>
      intro M hr hM hg
      have hg2 : M = B := hg
      rw [hg2]
      refine wl_iload_n hX 2 rfl dX3_findFor_47 ?_
      refine wl_if_lt hX (tgt := 105) dX3_findFor_48 (by decide) (fun h9 => ?_) (fun h9 => absurd (by decide) h9)
      refine wl_aload_n hX 0 rfl dX3_findFor_105 ?_
      refine wl_iconst hX (v := 0) dX3_findFor_106 (by decide) ?_
      refine wl_iconst hX (v := 0) dX3_findFor_107 (by decide) ?_
      refine wl_iconst hX (v := 0) dX3_findFor_108 (by decide) ?_
      refine wl_mem (I' := (smM B (B 14, B 15, B 2 7, B 2 8))) (smM_self B).symm rfl ?_
      refine wl_cSv hX (c_X3_tryFrom hi B J Q (by rw [← hg2, hM 1 (by unfold scrC; omega)]; exact hQ) hQ6 (ffN I P p) (fun q hq => by rw [hB]; exact ⟨(fsF_10 Q _ q hQ6).1 hq, (opC_len _ _).2⟩) Q 0 (B 14, B 15, B 2 7, B 2 8) 0 0 (by omega)) mv_X3_tryFrom tb_320 rfl rfl (by omega) (Nat.le_of_ble_eq_true rfl) dX3_findFor_109 ?_
      exact wl_return hT dX3_findFor_112 ⟨rfl, by rw [hB]; rfl, rfl⟩
    | succ r ih =>
      intro M hr hM hg
      rw [nI_pred]
      refine wl_iload_n hX 2 rfl dX3_findFor_47 ?_
      refine wl_if_lt hX (tgt := 105) dX3_findFor_48 (by decide) (fun h9 => absurd h9 (nI_pos (by omega))) (fun h9 => ?_)
      refine wl_aload_n hX 0 rfl dX3_findFor_51 ?_
      refine wl_iload_n hX 2 rfl dX3_findFor_52 ?_
      refine wl_aload_n hX 0 rfl dX3_findFor_53 ?_
      refine gf_X3_0 hX tb_94 dX3_findFor_54 ?_
      refine wl_iload_n hX 1 rfl dX3_findFor_57 ?_
      refine wl_iload_n hX 2 rfl dX3_findFor_58 ?_
      refine wl_cVi hX (c_X1_countWithout hi M J p r (by omega) (by omega) P (by rw [hM 1 (by unfold scrC; omega)]; exact hP) hP12) mv_X1_countWithout tb_310 (by decide) rfl rfl rfl rfl (by omega) (Nat.le_of_ble_eq_true rfl) dX3_findFor_59 ?_
      refine wl_eqi (y := ffO I P p r) (lessF_congr hp (fun k _ => by rw [hM 7 (by unfold scrC; omega)]) (fun k hk => by unfold vC; rw [hM (33 + k) (by unfold scrC; omega)])) ?_
      refine wl_aload_n hX 0 rfl dX3_findFor_62 ?_
      refine gf_X3_0 hX tb_94 dX3_findFor_63 ?_
      refine gf_X1_6 hX tb_68 dX3_findFor_66 ?_
      refine wl_iload_n hX 1 rfl dX3_findFor_69 ?_
      refine wl_aald4 hX p kc_9 rfl (by omega) dX3_findFor_70 ?_
      refine wl_iload_n hX 2 rfl dX3_findFor_71 ?_
      refine wl_iald hX r (kd_45 (by omega)) rfl (by omega) dX3_findFor_72 ?_
      refine wl_eqi (y := wC I p r) (by rw [hM (45 + p) (by unfold scrC; omega)]; rfl) ?_
      refine wl_cVv hX (c_X3_listChoices hi M J r (ffO I P p r) (wC I p r) (by omega)) mv_X3_listChoices tb_311 (by decide) rfl rfl rfl rfl (by omega) (Nat.le_of_ble_eq_true rfl) dX3_findFor_73 ?_
      refine wl_aload_n hX 0 rfl dX3_findFor_76 ?_
      refine gf_X3_4 hX tb_98 dX3_findFor_77 ?_
      refine wl_iload_n hX 2 rfl dX3_findFor_80 ?_
      refine wl_aload_n hX 0 rfl dX3_findFor_81 ?_
      refine gf_X3_4 hX tb_98 dX3_findFor_82 ?_
      refine wl_iload_n hX 2 rfl dX3_findFor_85 ?_
      refine wl_iconst hX (v := 1) dX3_findFor_86 (by decide) ?_
      refine wl_iadd hX dX3_findFor_87 ?_
      refine wl_eqi (y := nI (r + 1)) (nI_1 r) ?_
      refine wl_iald hX (r + 1) kc_13 rfl (by omega) dX3_findFor_88 ?_
      refine wl_aload_n hX 0 rfl dX3_findFor_89 ?_
      refine gf_X3_3 hX tb_97 dX3_findFor_90 ?_
      refine wl_iload_n hX 2 rfl dX3_findFor_93 ?_
      refine wl_aald4 hX r kc_12 rfl (by omega) dX3_findFor_94 ?_
      refine wl_iconst hX (v := 0) dX3_findFor_95 (by decide) ?_
      refine wl_iald hX 0 (kd_63 (by omega)) (by decide) (by omega) dX3_findFor_96 ?_
      refine wl_iadd hX dX3_findFor_97 ?_
      refine wl_iast hX r kc_13 rfl (by omega) dX3_findFor_98 ?_
      refine wl_iinc hX (v := nI r - 1) (lv' := [(2, .int (nI r - 1)), (0, .ref (ad 2)), (1, .int (nI p))]) 2 rfl (by exact (hx_m1 (nI r))) rfl (by decide) dX3_findFor_99 ?_
      refine wl_goto hX (tgt := 47) dX3_findFor_102 (by decide) ?_
      refine wl_mem (I' := (fs1 M r (ffO I P p r) (wC I p r))) rfl rfl ?_
      refine wl_sub hX [1, 2, 0] rfl ?_
      exact ih _ (by omega) (fun a ha => by rw [fs1_ne (by omega) ha]; exact hM a ha) hg
  exact L Q (ff0 I Q p) (Nat.le_refl _) (fun a ha => ff0_ne ha) hB.symm
end
section
/-! the rounds, in plain words -/
theorem ffM_ne {I : MI} {P Q p a : Nat} (hQ : Q ≤ 6) (h : ¬ scrC a) : ffM I P Q p a = I a := by
  have h2 : ¬ scrC a := h
  unfold scrC at h
  unfold ffM
  rw [smM_ne (by omega) (by omega) (by omega)]
  unfold ffB
  rw [fsF_ne h2 Q _ hQ, ff0_ne h2]
theorem hx_cp_ne {I : MI} {k0 k1 n a : Nat} (h : a ≠ k1) : hx_cp I k0 k1 n a = I a := if_neg h
/-- a person's turn in a round -/
def tuF (P Q p : Nat) (s : MI × Int32) : MI × Int32 := if s.1 7 p = 0 then s else if gainF (ffM s.1 P Q p 7) (vC (ffM s.1 P Q p)) (wC (ffM s.1 P Q p)) P Q p < ffM s.1 P Q p 2 7 then (hx_cp (ffM s.1 P Q p) 15 (33 + p) Q, s.2 + 1) else (ffM s.1 P Q p, s.2)
def drF (P Q : Nat) (I : MI) : Nat → MI × Int32
  | 0 => (I, 0)
  | p + 1 => tuF P Q p (drF P Q I p)
def scrR (a : Nat) : Prop := scrC a ∨ (33 ≤ a ∧ a < 45)
theorem tuF_ne {P Q p a : Nat} {s : MI × Int32} (hQ : Q ≤ 6) (hp : p < 12) (h : ¬ scrR a) : (tuF P Q p s).1 a = s.1 a := by
  unfold scrR at h
  unfold tuF
  split
  · rfl
  · split
    · show hx_cp _ _ _ _ a = _
      rw [hx_cp_ne (by omega), ffM_ne hQ (fun z => h (Or.inl z))]
    · exact ffM_ne hQ (fun z => h (Or.inl z))
theorem drF_ne {P Q a : Nat} {I : MI} (hQ : Q ≤ 6) (h : ¬ scrR a) : ∀ p, p ≤ 12 → (drF P Q I p).1 a = I a
  | 0, _ => rfl
  | p + 1, hp => by
    show (tuF P Q p (drF P Q I p)).1 a = I a
    rw [tuF_ne hQ (by omega) h, drF_ne hQ h p (by omega)]
def ntF (I : MI) (P Q row : Nat) (J : MJ) : MJ := lwJ J (69 + row) (fun p => codeF (vC I) p Q) P
/-- 1 if two rows of the trail are the same from p on, n places -/
def smF (J : MJ) (a b : Nat) : Nat → Nat → Int32
  | 0, _ => 1
  | n + 1, p => if J (69 + a) p = J (69 + b) p then smF J a b n (p + 1) else 0
def jdF (J : MJ) (P done : Nat) (I : MI) : Nat → MI
  | 0 => I
  | row + 1 => if smF J row done P 0 = 0 then jdF J P done I row else hx_u (hx_u (jdF J P done I row) 3 5 2) 3 6 (nI done - nI row)
def juF (J : MJ) (P done : Nat) (ch : Int32) (I : MI) : MI := if ch = 0 then hx_u I 3 5 1 else jdF J P done I done
theorem jdF_ne {J : MJ} {P done a : Nat} {I : MI} (h : a ≠ 3) : ∀ row, jdF J P done I row a = I a
  | 0 => rfl
  | row + 1 => by
    show (if smF J row done P 0 = 0 then jdF J P done I row else hx_u (hx_u (jdF J P done I row) 3 5 2) 3 6 (nI done - nI row)) a = I a
    by_cases e : smF J row done P 0 = 0
    · rw [if_pos e]
      exact jdF_ne h row
    · rw [if_neg e, hx_u_ne _ _ _ h, hx_u_ne _ _ _ h]
      exact jdF_ne h row
theorem juF_ne {J : MJ} {P done a : Nat} {ch : Int32} {I : MI} (h : a ≠ 3) : juF J P done ch I a = I a := by
  unfold juF
  split
  · exact hx_u_ne _ _ _ h
  · exact jdF_ne h _
/-- the count of rounds and of changes -/
def tlM (I : MI) (ch : Int32) : MI := hx_u (hx_u I 3 3 (I 3 3 + 1)) 3 4 (I 3 4 + ch)
/-- a round of a play: d rounds are done -/
def prF (P Q d : Nat) (s : MI × MJ) : MI × MJ := (juF (ntF (tlM (drF P Q s.1 P).1 (drF P Q s.1 P).2) P Q (d + 1) s.2) P (d + 1) (drF P Q s.1 P).2 (tlM (drF P Q s.1 P).1 (drF P Q s.1 P).2), ntF (tlM (drF P Q s.1 P).1 (drF P Q s.1 P).2) P Q (d + 1) s.2)
def plF (P Q : Nat) : Nat → Nat → MI × MJ → Nat × MI × MJ
  | 0, d, s => (d, s)
  | f + 1, d, s => if s.1 3 5 = 0 then plF P Q f (d + 1) (prF P Q d s) else (d, s)
def pl0 (I : MI) : MI := hx_u (hx_u I 3 5 0) 3 6 0
end
section
/-! the rounds: their contracts -/
set_option maxHeartbeats 400000 in
theorem c_X2_noteVoices {l : Launch} {D : va_G} {ad : Nat → Nat} {cy : Nat → ClassId} (hi : hx_inj ad) (I : MI) (J : MJ) (row : Nat) (hr : row < 31) (P : Nat) (hP : I 1 0 = nI P) (hP12 : P ≤ 12) (Q : Nat) (hQ : I 1 1 = nI Q) (hQ6 : Q ≤ 6) : Ct l D ad cy yX2_noteVoices cX2_noteVoices 3 none 1 [.ref (ad 3), .int (nI row)] I J (hx_is none I (ntF I P Q row J)) := by
  refine ct_start hi (by decide +kernel) (Nat.le_of_ble_eq_true rfl) (fun X hX hT => ?_)
  show X 0 [(0, .ref (ad 3)), (1, .int (nI row))] [] I J
  refine wl_iconst hX (v := 0) dX2_noteVoices_0 (by decide) ?_
  refine wl_istore_n hX (lv' := [(2, .int 0), (0, .ref (ad 3)), (1, .int (nI row))]) rfl (by decide) dX2_noteVoices_1 ?_
  refine wl_sub hX [1, 2, 0] rfl ?_
  have L : ∀ (k p : Nat), p ≤ P → P - p < k → X 2 [(0, .ref (ad 3)), (1, .int (nI row)), (2, .int (nI p))] [] I (lwJ J (69 + row) (fun p => codeF (vC I) p Q) p) := by
    intro k
    induction k with
    | zero => exact fun _  _ h => absurd h (Nat.not_lt_zero _)
    | succ k ihL =>
      intro p  hpn hpk
      refine wl_iload_n hX 2 rfl dX2_noteVoices_2 ?_
      refine wl_aload_n hX 0 rfl dX2_noteVoices_3 ?_
      refine gf_X2_0 hX tb_136 dX2_noteVoices_4 ?_
      refine gf_X1_0 hX tb_51 dX2_noteVoices_7 ?_
      refine wl_eqi (y := nI P) hP ?_
      refine wl_icmp_ge hX (tgt := 35) dX2_noteVoices_10 (by decide) (fun hpc => ?_) (fun hpc => ?_)
      · have hpe : p = P := by
          have h9 := (nI_leI (by omega) (by omega)).mp hpc
          omega
        exact wl_return hT dX2_noteVoices_35 ⟨rfl, rfl, by rw [hpe]; rfl⟩
      · have hp1 : p < P := Nat.lt_of_not_le (fun z => hpc ((nI_leI (by omega) (by omega)).mpr z))
        refine wl_aload_n hX 0 rfl dX2_noteVoices_13 ?_
        refine gf_X2_2 hX tb_138 dX2_noteVoices_14 ?_
        refine wl_iload_n hX 1 rfl dX2_noteVoices_17 ?_
        refine wl_aald5 hX row kc_16 rfl (by omega) dX2_noteVoices_18 ?_
        refine wl_iload_n hX 2 rfl dX2_noteVoices_19 ?_
        refine wl_aload_n hX 0 rfl dX2_noteVoices_20 ?_
        refine gf_X2_0 hX tb_136 dX2_noteVoices_21 ?_
        refine wl_iload_n hX 2 rfl dX2_noteVoices_24 ?_
        refine wl_cVl hX (c_X1_voicesInOne hi I (lwJ J (69 + row) (fun p => codeF (vC I) p Q) p) p (by omega) Q hQ hQ6) mv_X1_voicesInOne tb_358 (by decide) rfl rfl rfl rfl (by omega) (Nat.le_of_ble_eq_true rfl) dX2_noteVoices_25 ?_
        refine wl_last hX p (kd_69 (by omega)) rfl (by omega) dX2_noteVoices_28 ?_
        refine wl_iinc hX (v := nI (p + 1)) (lv' := [(2, .int (nI (p + 1))), (0, .ref (ad 3)), (1, .int (nI row))]) 2 rfl (nI_1 _) rfl (by decide) dX2_noteVoices_29 ?_
        refine wl_goto hX (tgt := 2) dX2_noteVoices_32 (by decide) ?_
        refine wl_sub hX [1, 2, 0] rfl ?_
        exact ihL (p + 1) (by omega) (by omega)
  exact L (P + 1) 0 (by omega) (by omega)

set_option maxHeartbeats 400000 in
theorem c_X2_isSameTrail {l : Launch} {D : va_G} {ad : Nat → Nat} {cy : Nat → ClassId} (hi : hx_inj ad) (I : MI) (J : MJ) (a b : Nat) (ha : a < 31) (hb : b < 31) (P : Nat) (hP : I 1 0 = nI P) (hP12 : P ≤ 12) : Ct l D ad cy yX2_isSameTrail cX2_isSameTrail 4 (some .boolean) 0 [.ref (ad 3), .int (nI a), .int (nI b)] I J (hx_is (some (.int (smF J a b P 0))) I J) := by
  refine ct_start hi (by decide +kernel) (Nat.le_of_ble_eq_true rfl) (fun X hX hT => ?_)
  show X 0 [(0, .ref (ad 3)), (1, .int (nI a)), (2, .int (nI b))] [] I J
  obtain ⟨res, hres⟩ : ∃ z : Int32, z = smF J a b P 0 := ⟨_, rfl⟩
  rw [← hres] at hT
  have L : ∀ (m p : Nat), p + m = P → smF J a b m p = res → X 2 [(0, .ref (ad 3)), (1, .int (nI a)), (2, .int (nI b)), (3, .int (nI p))] [] I J := by
    intro m
    induction m with
    | zero =>
      intro p hq hg
      refine wl_iload_n hX 3 rfl dX2_isSameTrail_2 ?_
      refine wl_aload_n hX 0 rfl dX2_isSameTrail_3 ?_
      refine gf_X2_0 hX tb_136 dX2_isSameTrail_4 ?_
      refine gf_X1_0 hX tb_51 dX2_isSameTrail_7 ?_
      refine wl_eqi (y := nI P) hP ?_
      refine wl_icmp_ge hX (tgt := 41) dX2_isSameTrail_10 (by decide) (fun h9 => ?_) (fun h9 => absurd ((nI_leI (by omega) (by omega)).mpr (by omega)) h9)
      refine wl_iconst hX (v := 1) dX2_isSameTrail_41 (by decide) ?_
      exact wl_zreturn hT dX2_isSameTrail_42 (by decide) (hx_ri hg)
    | succ m ih =>
      intro p hq hg
      have hg2 : (if J (69 + a) p = J (69 + b) p then smF J a b m (p + 1) else (0 : Int32)) = res := hg
      refine wl_iload_n hX 3 rfl dX2_isSameTrail_2 ?_
      refine wl_aload_n hX 0 rfl dX2_isSameTrail_3 ?_
      refine gf_X2_0 hX tb_136 dX2_isSameTrail_4 ?_
      refine gf_X1_0 hX tb_51 dX2_isSameTrail_7 ?_
      refine wl_eqi (y := nI P) hP ?_
      refine wl_icmp_ge hX (tgt := 41) dX2_isSameTrail_10 (by decide) (fun h9 => absurd h9 (fun z => absurd ((nI_leI (by omega) (by omega)).mp z) (by omega))) (fun h9 => ?_)
      refine wl_aload_n hX 0 rfl dX2_isSameTrail_13 ?_
      refine gf_X2_2 hX tb_138 dX2_isSameTrail_14 ?_
      refine wl_iload_n hX 1 rfl dX2_isSameTrail_17 ?_
      refine wl_aald5 hX a kc_16 rfl (by omega) dX2_isSameTrail_18 ?_
      refine wl_iload_n hX 3 rfl dX2_isSameTrail_19 ?_
      refine wl_lald hX p (kd_69 (by omega)) rfl (by omega) dX2_isSameTrail_20 ?_
      refine wl_aload_n hX 0 rfl dX2_isSameTrail_21 ?_
      refine gf_X2_2 hX tb_138 dX2_isSameTrail_22 ?_
      refine wl_iload_n hX 2 rfl dX2_isSameTrail_25 ?_
      refine wl_aald5 hX b kc_16 rfl (by omega) dX2_isSameTrail_26 ?_
      refine wl_iload_n hX 3 rfl dX2_isSameTrail_27 ?_
      refine wl_lald hX p (kd_69 (by omega)) rfl (by omega) dX2_isSameTrail_28 ?_
      refine wl_lif_eq hX (tgt := 35) dX2_isSameTrail_29 dX2_isSameTrail_30 (by decide) (fun h1 => ?_) (fun h1 => ?_)
      · rw [if_pos h1] at hg2
        refine wl_iinc hX (v := nI (p + 1)) (lv' := [(3, .int (nI (p + 1))), (0, .ref (ad 3)), (1, .int (nI a)), (2, .int (nI b))]) 3 rfl (nI_1 _) rfl (by decide) dX2_isSameTrail_35 ?_
        refine wl_goto hX (tgt := 2) dX2_isSameTrail_38 (by decide) ?_
        refine wl_sub hX [1, 2, 3, 0] rfl ?_
        exact ih (p + 1) (by omega) hg2
      · rw [if_neg h1] at hg2
        refine wl_iconst hX (v := 0) dX2_isSameTrail_33 (by decide) ?_
        exact wl_zreturn hT dX2_isSameTrail_34 (by decide) (hx_ri hg2)
  refine wl_iconst hX (v := 0) dX2_isSameTrail_0 (by decide) ?_
  refine wl_istore_n hX (lv' := [(3, .int 0), (0, .ref (ad 3)), (1, .int (nI a)), (2, .int (nI b))]) rfl (by decide) dX2_isSameTrail_1 ?_
  refine wl_sub hX [1, 2, 3, 0] rfl ?_
  exact L P 0 (by omega) hres.symm

set_option maxHeartbeats 400000 in
theorem c_X2_judge {l : Launch} {D : va_G} {ad : Nat → Nat} {cy : Nat → ClassId} (hi : hx_inj ad) (I : MI) (J : MJ) (done : Nat) (ch : Int32) (hd : done < 31) (P : Nat) (hP : I 1 0 = nI P) (hP12 : P ≤ 12) : Ct l D ad cy yX2_judge cX2_judge 4 none 1 [.ref (ad 3), .int (nI done), .int ch] I J (hx_is none (juF J P done ch I) J) := by
  refine ct_start hi (by decide +kernel) (Nat.le_of_ble_eq_true rfl) (fun X hX hT => ?_)
  show X 0 [(0, .ref (ad 3)), (1, .int (nI done)), (2, .int ch)] [] I J
  refine wl_iload_n hX 2 rfl dX2_judge_0 ?_
  refine wl_if_ne hX (tgt := 10) dX2_judge_1 (by decide) (fun h1 => ?_) (fun h1 => ?_)
  · refine wl_iconst hX (v := 0) dX2_judge_10 (by decide) ?_
    refine wl_istore_n hX (lv' := [(3, .int 0), (0, .ref (ad 3)), (1, .int (nI done)), (2, .int ch)]) rfl (by decide) dX2_judge_11 ?_
    refine wl_sub hX [1, 2, 3, 0] rfl ?_
    have L : ∀ (k row : Nat), row ≤ done → done - row < k → X 12 [(0, .ref (ad 3)), (1, .int (nI done)), (2, .int ch), (3, .int (nI row))] [] (jdF J P done I row) J := by
      intro k
      induction k with
      | zero => exact fun _  _ h => absurd h (Nat.not_lt_zero _)
      | succ k ihL =>
        intro row  hrown hrowk
        refine wl_iload_n hX 3 rfl dX2_judge_12 ?_
        refine wl_iload_n hX 1 rfl dX2_judge_13 ?_
        refine wl_icmp_ge hX (tgt := 44) dX2_judge_14 (by decide) (fun hrowc => ?_) (fun hrowc => ?_)
        · have hrowe : row = done := by
            have h9 := (nI_leI (by omega) (by omega)).mp hrowc
            omega
          exact wl_return hT dX2_judge_44 ⟨rfl, by rw [hrowe]; unfold juF; rw [if_neg h1], rfl⟩
        · have hrow1 : row < done := Nat.lt_of_not_le (fun z => hrowc ((nI_leI (by omega) (by omega)).mpr z))
          refine wl_aload_n hX 0 rfl dX2_judge_17 ?_
          refine wl_iload_n hX 3 rfl dX2_judge_18 ?_
          refine wl_iload_n hX 1 rfl dX2_judge_19 ?_
          refine wl_cVi hX (c_X2_isSameTrail hi (jdF J P done I row) J row done (by omega) hd P (by rw [jdF_ne (by decide)]; exact hP) hP12) mv_X2_isSameTrail tb_375 (by decide) rfl rfl rfl rfl (by omega) (Nat.le_of_ble_eq_true rfl) dX2_judge_20 ?_
          have e2 : jdF J P done I (row + 1) = if smF J row done P 0 = 0 then jdF J P done I row else hx_u (hx_u (jdF J P done I row) 3 5 2) 3 6 (nI done - nI row) := rfl
          refine wl_if_eq hX (tgt := 38) dX2_judge_23 (by decide) (fun h2 => ?_) (fun h2 => ?_)
          · rw [if_pos h2] at e2
            rw [← e2]
            refine wl_iinc hX (v := nI (row + 1)) (lv' := [(3, .int (nI (row + 1))), (0, .ref (ad 3)), (1, .int (nI done)), (2, .int ch)]) 3 rfl (nI_1 _) rfl (by decide) dX2_judge_38 ?_
            refine wl_goto hX (tgt := 12) dX2_judge_41 (by decide) ?_
            refine wl_sub hX [1, 2, 3, 0] rfl ?_
            exact ihL (row + 1) (by omega) (by omega)
          · rw [if_neg h2] at e2
            refine wl_aload_n hX 0 rfl dX2_judge_26 ?_
            refine wl_iconst hX (v := 2) dX2_judge_27 (by decide) ?_
            refine pf_X2_5 hX tb_143 dX2_judge_28 ?_
            refine wl_aload_n hX 0 rfl dX2_judge_31 ?_
            refine wl_iload_n hX 1 rfl dX2_judge_32 ?_
            refine wl_iload_n hX 3 rfl dX2_judge_33 ?_
            refine wl_isub hX dX2_judge_34 ?_
            refine pf_X2_6 hX tb_145 dX2_judge_35 ?_
            refine wl_mem (I' := (jdF J P done I (row + 1))) e2.symm rfl ?_
            refine wl_iinc hX (v := nI (row + 1)) (lv' := [(3, .int (nI (row + 1))), (0, .ref (ad 3)), (1, .int (nI done)), (2, .int ch)]) 3 rfl (nI_1 _) rfl (by decide) dX2_judge_38 ?_
            refine wl_goto hX (tgt := 12) dX2_judge_41 (by decide) ?_
            refine wl_sub hX [1, 2, 3, 0] rfl ?_
            exact ihL (row + 1) (by omega) (by omega)
    exact L (done + 1) 0 (by omega) (by omega)
  · refine wl_aload_n hX 0 rfl dX2_judge_4 ?_
    refine wl_iconst hX (v := 1) dX2_judge_5 (by decide) ?_
    refine pf_X2_5 hX tb_143 dX2_judge_6 ?_
    exact wl_return hT dX2_judge_9 ⟨rfl, by unfold juF; rw [if_pos h1], rfl⟩

set_option maxHeartbeats 400000 in
theorem c_X2_doRound {l : Launch} {D : va_G} {ad : Nat → Nat} {cy : Nat → ClassId} (hi : hx_inj ad) (I : MI) (J : MJ) (P : Nat) (hP : I 1 0 = nI P) (hP12 : P ≤ 12) (Q : Nat) (hQ : I 1 1 = nI Q) (hQ6 : Q ≤ 6) : Ct l D ad cy yX2_doRound cX2_doRound 3 (some .int) 10 [.ref (ad 3)] I J (hx_is (some (.int (drF P Q I P).2)) (drF P Q I P).1 J) := by
  refine ct_start hi (by decide +kernel) (Nat.le_of_ble_eq_true rfl) (fun X hX hT => ?_)
  show X 0 [(0, .ref (ad 3))] [] I J
  refine wl_iconst hX (v := 0) dX2_doRound_0 (by decide) ?_
  refine wl_istore_n hX (lv' := [(1, .int 0), (0, .ref (ad 3))]) rfl (by decide) dX2_doRound_1 ?_
  refine wl_iconst hX (v := 0) dX2_doRound_2 (by decide) ?_
  refine wl_istore_n hX (lv' := [(2, .int 0), (1, .int 0), (0, .ref (ad 3))]) rfl (by decide) dX2_doRound_3 ?_
  refine wl_sub hX [2, 1, 0] rfl ?_
  have L : ∀ (k p : Nat), p ≤ P → P - p < k → X 4 [(0, .ref (ad 3)), (1, .int ((drF P Q I p).2)), (2, .int (nI p))] [] ((drF P Q I p).1) J := by
    intro k
    induction k with
    | zero => exact fun _  _ h => absurd h (Nat.not_lt_zero _)
    | succ k ihL =>
      intro p  hpn hpk
      have d1 : (drF P Q I p).1 1 0 = nI P := by rw [drF_ne hQ6 (by unfold scrR scrC; omega) p (by omega)]; exact hP
      have d2 : (drF P Q I p).1 1 1 = nI Q := by rw [drF_ne hQ6 (by unfold scrR scrC; omega) p (by omega)]; exact hQ
      refine wl_iload_n hX 2 rfl dX2_doRound_4 ?_
      refine wl_aload_n hX 0 rfl dX2_doRound_5 ?_
      refine gf_X2_0 hX tb_136 dX2_doRound_6 ?_
      refine gf_X1_0 hX tb_51 dX2_doRound_9 ?_
      refine wl_eqi (y := nI P) d1 ?_
      refine wl_icmp_ge hX (tgt := 70) dX2_doRound_12 (by decide) (fun hpc => ?_) (fun hpc => ?_)
      · have hpe : p = P := by
          have h9 := (nI_leI (by omega) (by omega)).mp hpc
          omega
        refine wl_iload_n hX 1 rfl dX2_doRound_70 ?_
        exact wl_ireturn hT dX2_doRound_71 ⟨by rw [hpe], by rw [hpe], rfl⟩
      · have hp1 : p < P := Nat.lt_of_not_le (fun z => hpc ((nI_leI (by omega) (by omega)).mpr z))
        have e2 : drF P Q I (p + 1) = if (drF P Q I p).1 7 p = 0 then (drF P Q I p) else if gainF ((ffM (drF P Q I p).1 P Q p) 7) (vC (ffM (drF P Q I p).1 P Q p)) (wC (ffM (drF P Q I p).1 P Q p)) P Q p < (ffM (drF P Q I p).1 P Q p) 2 7 then (hx_cp (ffM (drF P Q I p).1 P Q p) 15 (33 + p) Q, (drF P Q I p).2 + 1) else ((ffM (drF P Q I p).1 P Q p), (drF P Q I p).2) := rfl
        refine wl_aload_n hX 0 rfl dX2_doRound_15 ?_
        refine gf_X2_0 hX tb_136 dX2_doRound_16 ?_
        refine gf_X1_4 hX tb_62 dX2_doRound_19 ?_
        refine wl_iload_n hX 2 rfl dX2_doRound_22 ?_
        refine wl_zald hX p kc_7 rfl (by omega) dX2_doRound_23 ?_
        refine wl_if_eq hX (tgt := 64) dX2_doRound_24 (by decide) (fun h1 => ?_) (fun h1 => ?_)
        · rw [if_pos h1] at e2
          rw [← e2]
          refine wl_iinc hX (v := nI (p + 1)) (lv' := [(2, .int (nI (p + 1))), (0, .ref (ad 3)), (1, .int ((drF P Q I (p + 1)).2))]) 2 rfl (nI_1 _) rfl (by decide) dX2_doRound_64 ?_
          refine wl_goto hX (tgt := 4) dX2_doRound_67 (by decide) ?_
          refine wl_sub hX [1, 2, 0] rfl ?_
          exact ihL (p + 1) (by omega) (by omega)
        · rw [if_neg h1] at e2
          have f1 : (ffM (drF P Q I p).1 P Q p) 1 0 = nI P := by rw [ffM_ne hQ6 (by unfold scrC; omega)]; exact d1
          have f2 : (ffM (drF P Q I p).1 P Q p) 1 1 = nI Q := by rw [ffM_ne hQ6 (by unfold scrC; omega)]; exact d2
          refine wl_aload_n hX 0 rfl dX2_doRound_27 ?_
          refine gf_X2_1 hX tb_137 dX2_doRound_28 ?_
          refine wl_iload_n hX 2 rfl dX2_doRound_31 ?_
          refine wl_cVv hX (c_X3_findFor hi (drF P Q I p).1 J P d1 hP12 p (by omega) Q d2 hQ6) mv_X3_findFor tb_368 (by decide) rfl rfl rfl rfl (by omega) (Nat.le_of_ble_eq_true rfl) dX2_doRound_32 ?_
          refine wl_aload_n hX 0 rfl dX2_doRound_35 ?_
          refine gf_X2_1 hX tb_137 dX2_doRound_36 ?_
          refine gf_X3_7 hX tb_103 dX2_doRound_39 ?_
          refine wl_aload_n hX 0 rfl dX2_doRound_42 ?_
          refine gf_X2_0 hX tb_136 dX2_doRound_43 ?_
          refine wl_iload_n hX 2 rfl dX2_doRound_46 ?_
          refine wl_cVi hX (c_X1_gainOf hi (ffM (drF P Q I p).1 P Q p) J p (by omega) P f1 hP12 Q f2 hQ6) mv_X1_gainOf tb_369 (by decide) rfl rfl rfl rfl (by omega) (Nat.le_of_ble_eq_true rfl) dX2_doRound_47 ?_
          refine wl_icmp_le hX (tgt := 64) dX2_doRound_50 (by decide) (fun h2 => ?_) (fun h2 => ?_)
          · rw [if_neg (fun z => by rw [Int32.lt_iff_toInt_lt] at z; rw [Int32.le_iff_toInt_le] at h2; omega)] at e2
            have e3 : (drF P Q I (p + 1)).1 = (ffM (drF P Q I p).1 P Q p) := by rw [e2]
            have e4 : (drF P Q I (p + 1)).2 = (drF P Q I p).2 := by rw [e2]
            rw [← e3, ← e4]
            refine wl_iinc hX (v := nI (p + 1)) (lv' := [(2, .int (nI (p + 1))), (0, .ref (ad 3)), (1, .int ((drF P Q I (p + 1)).2))]) 2 rfl (nI_1 _) rfl (by decide) dX2_doRound_64 ?_
            refine wl_goto hX (tgt := 4) dX2_doRound_67 (by decide) ?_
            refine wl_sub hX [1, 2, 0] rfl ?_
            exact ihL (p + 1) (by omega) (by omega)
          · rw [if_pos (by rw [Int32.lt_iff_toInt_lt]; rw [Int32.le_iff_toInt_le] at h2; omega)] at e2
            have e3 : (drF P Q I (p + 1)).1 = hx_cp (ffM (drF P Q I p).1 P Q p) 15 (33 + p) Q := by rw [e2]
            have e4 : (drF P Q I (p + 1)).2 = (drF P Q I p).2 + 1 := by rw [e2]
            refine wl_aload_n hX 0 rfl dX2_doRound_53 ?_
            refine gf_X2_1 hX tb_137 dX2_doRound_54 ?_
            refine wl_iload_n hX 2 rfl dX2_doRound_57 ?_
            refine wl_cVv hX (c_X3_giveTo hi (ffM (drF P Q I p).1 P Q p) J p (by omega) Q f2 hQ6) mv_X3_giveTo tb_370 (by decide) rfl rfl rfl rfl (by omega) (Nat.le_of_ble_eq_true rfl) dX2_doRound_58 ?_
            rw [← e3]
            refine wl_iinc hX (v := (drF P Q I (p + 1)).2) (lv' := [(1, .int ((drF P Q I (p + 1)).2)), (0, .ref (ad 3)), (2, .int (nI p))]) 1 rfl (by exact e4.symm) rfl (by decide) dX2_doRound_61 ?_
            refine wl_iinc hX (v := nI (p + 1)) (lv' := [(2, .int (nI (p + 1))), (1, .int ((drF P Q I (p + 1)).2)), (0, .ref (ad 3))]) 2 rfl (nI_1 _) rfl (by decide) dX2_doRound_64 ?_
            refine wl_goto hX (tgt := 4) dX2_doRound_67 (by decide) ?_
            refine wl_sub hX [2, 1, 0] rfl ?_
            exact ihL (p + 1) (by omega) (by omega)
  exact L (P + 1) 0 (by omega) (by omega)

set_option maxHeartbeats 400000 in
theorem c_X2_playAtMost {l : Launch} {D : va_G} {ad : Nat → Nat} {cy : Nat → ClassId} (hi : hx_inj ad) (I : MI) (J : MJ) (N : Nat) (hN : N ≤ 30) (P : Nat) (hP : I 1 0 = nI P) (hP12 : P ≤ 12) (Q : Nat) (hQ : I 1 1 = nI Q) (hQ6 : Q ≤ 6) : Ct l D ad cy yX2_playAtMost cX2_playAtMost 4 (some .int) 11 [.ref (ad 3), .int (nI N)] I J (hx_is (some (.int (nI (plF P Q N 0 (pl0 I, ntF (pl0 I) P Q 0 J)).1))) (plF P Q N 0 (pl0 I, ntF (pl0 I) P Q 0 J)).2.1 (plF P Q N 0 (pl0 I, ntF (pl0 I) P Q 0 J)).2.2) := by
  refine ct_start hi (by decide +kernel) (Nat.le_of_ble_eq_true rfl) (fun X hX hT => ?_)
  show X 0 [(0, .ref (ad 3)), (1, .int (nI N))] [] I J
  refine wl_aload_n hX 0 rfl dX2_playAtMost_0 ?_
  refine wl_iconst hX (v := 0) dX2_playAtMost_1 (by decide) ?_
  refine pf_X2_5 hX tb_143 dX2_playAtMost_2 ?_
  refine wl_aload_n hX 0 rfl dX2_playAtMost_5 ?_
  refine wl_iconst hX (v := 0) dX2_playAtMost_6 (by decide) ?_
  refine pf_X2_6 hX tb_145 dX2_playAtMost_7 ?_
  refine wl_mem (I' := (pl0 I)) rfl rfl ?_
  refine wl_aload_n hX 0 rfl dX2_playAtMost_10 ?_
  refine wl_iconst hX (v := 0) dX2_playAtMost_11 (by decide) ?_
  refine wl_cVv hX (c_X2_noteVoices hi (pl0 I) J 0 (by omega) P hP hP12 Q hQ hQ6) mv_X2_noteVoices tb_354 (by decide) rfl rfl rfl rfl (by omega) (Nat.le_of_ble_eq_true rfl) dX2_playAtMost_12 ?_
  refine wl_iconst hX (v := 0) dX2_playAtMost_15 (by decide) ?_
  refine wl_istore_n hX (lv' := [(2, .int 0), (0, .ref (ad 3)), (1, .int (nI N))]) rfl (by decide) dX2_playAtMost_16 ?_
  refine wl_sub hX [1, 2, 0] rfl ?_
  obtain ⟨res, hres⟩ : ∃ z : Nat × MI × MJ, z = (plF P Q N 0 (pl0 I, ntF (pl0 I) P Q 0 J)) := ⟨_, rfl⟩
  rw [← hres] at hT
  have L : ∀ (f d : Nat) (M : MI) (K : MJ), d + f = N → M 1 0 = nI P → M 1 1 = nI Q → plF P Q f d (M, K) = res → X 17 [(0, .ref (ad 3)), (1, .int (nI N)), (2, .int (nI d))] [] M K := by
    intro f
    induction f with
    | zero =>
      intro d M K hd m1 m2 hg
      refine wl_iload_n hX 2 rfl dX2_playAtMost_17 ?_
      refine wl_iload_n hX 1 rfl dX2_playAtMost_18 ?_
      refine wl_icmp_ge hX (tgt := 77) dX2_playAtMost_19 (by decide) (fun h9 => ?_) (fun h9 => absurd ((nI_leI (by omega) (by omega)).mpr (by omega)) h9)
      refine wl_iload_n hX 2 rfl dX2_playAtMost_77 ?_
      exact wl_ireturn hT dX2_playAtMost_78 ⟨by rw [← hg]; rfl, by rw [← hg]; rfl, by rw [← hg]; rfl⟩
    | succ f ih =>
      intro d M K hd m1 m2 hg
      have hg2 : (if M 3 5 = 0 then plF P Q f (d + 1) (prF P Q d (M, K)) else (d, M, K)) = res := hg
      refine wl_iload_n hX 2 rfl dX2_playAtMost_17 ?_
      refine wl_iload_n hX 1 rfl dX2_playAtMost_18 ?_
      refine wl_icmp_ge hX (tgt := 77) dX2_playAtMost_19 (by decide) (fun h9 => absurd h9 (fun z => absurd ((nI_leI (by omega) (by omega)).mp z) (by omega))) (fun h9 => ?_)
      refine wl_iload_n hX 2 rfl dX2_playAtMost_22 ?_
      refine wl_bipush hX (v := 30) dX2_playAtMost_23 (by decide) ?_
      refine wl_icmp_ge hX (tgt := 77) dX2_playAtMost_25 (by decide) (fun h8 => absurd h8 (fun z => absurd ((nI_leI (a := 30) (by omega) (by omega)).mp z) (by omega))) (fun h8 => ?_)
      refine wl_aload_n hX 0 rfl dX2_playAtMost_28 ?_
      refine gf_X2_5 hX tb_143 dX2_playAtMost_29 ?_
      refine wl_if_ne hX (tgt := 77) dX2_playAtMost_32 (by decide) (fun h1 => ?_) (fun h1 => ?_)
      · rw [if_neg h1] at hg2
        refine wl_iload_n hX 2 rfl dX2_playAtMost_77 ?_
        exact wl_ireturn hT dX2_playAtMost_78 ⟨by rw [← hg2], by rw [← hg2], by rw [← hg2]⟩
      · rw [if_pos h1] at hg2
        refine wl_aload_n hX 0 rfl dX2_playAtMost_35 ?_
        refine wl_cVi hX (c_X2_doRound hi M K P m1 hP12 Q m2 hQ6) mv_X2_doRound tb_364 (by decide) rfl rfl rfl rfl (by omega) (Nat.le_of_ble_eq_true rfl) dX2_playAtMost_36 ?_
        refine wl_istore_n hX (lv' := [(3, .int ((drF P Q M P).2)), (0, .ref (ad 3)), (1, .int (nI N)), (2, .int (nI d))]) rfl (by decide) dX2_playAtMost_39 ?_
        refine wl_iinc hX (v := nI (d + 1)) (lv' := [(2, .int (nI (d + 1))), (3, .int ((drF P Q M P).2)), (0, .ref (ad 3)), (1, .int (nI N))]) 3 rfl (nI_1 _) rfl (by decide) dX2_playAtMost_40 ?_
        refine wl_aload_n hX 2 rfl dX2_playAtMost_43 ?_
        refine wl_dup hX dX2_playAtMost_44 rfl ?_
        refine gf_X2_3 hX tb_139 dX2_playAtMost_45 ?_
        refine wl_iconst hX (v := 1) dX2_playAtMost_48 (by decide) ?_
        refine wl_iadd hX dX2_playAtMost_49 ?_
        refine pf_X2_3 hX tb_139 dX2_playAtMost_50 ?_
        refine wl_aload_n hX 2 rfl dX2_playAtMost_53 ?_
        refine wl_dup hX dX2_playAtMost_54 rfl ?_
        refine gf_X2_4 hX tb_141 dX2_playAtMost_55 ?_
        refine wl_iload_n hX 1 rfl dX2_playAtMost_58 ?_
        refine wl_iadd hX dX2_playAtMost_59 ?_
        refine pf_X2_4 hX tb_141 dX2_playAtMost_60 ?_
        have t1 : (tlM (drF P Q M P).1 (drF P Q M P).2) 1 0 = nI P := by
          refine Eq.trans ?_ m1
          exact congrFun (drF_ne hQ6 (by unfold scrR scrC; omega) P hP12) 0
        have t2 : (tlM (drF P Q M P).1 (drF P Q M P).2) 1 1 = nI Q := by
          refine Eq.trans ?_ m2
          exact congrFun (drF_ne hQ6 (by unfold scrR scrC; omega) P hP12) 1
        refine wl_mem (I' := (tlM (drF P Q M P).1 (drF P Q M P).2)) rfl rfl ?_
        refine wl_aload_n hX 2 rfl dX2_playAtMost_63 ?_
        refine wl_iload_n hX 0 rfl dX2_playAtMost_64 ?_
        refine wl_cVv hX (c_X2_noteVoices hi (tlM (drF P Q M P).1 (drF P Q M P).2) K (d + 1) (by omega) P t1 hP12 Q t2 hQ6) mv_X2_noteVoices tb_354 (by decide) rfl rfl rfl rfl (by omega) (Nat.le_of_ble_eq_true rfl) dX2_playAtMost_65 ?_
        refine wl_aload_n hX 2 rfl dX2_playAtMost_68 ?_
        refine wl_iload_n hX 0 rfl dX2_playAtMost_69 ?_
        refine wl_iload_n hX 1 rfl dX2_playAtMost_70 ?_
        refine wl_cVv hX (c_X2_judge hi (tlM (drF P Q M P).1 (drF P Q M P).2) (ntF (tlM (drF P Q M P).1 (drF P Q M P).2) P Q (d + 1) K) (d + 1) (drF P Q M P).2 (by omega) P t1 hP12) mv_X2_judge tb_371 (by decide) rfl rfl rfl rfl (by omega) (Nat.le_of_ble_eq_true rfl) dX2_playAtMost_71 ?_
        refine wl_goto hX (tgt := 17) dX2_playAtMost_74 (by decide) ?_
        refine wl_sub hX [2, 3, 0] rfl ?_
        exact ih (d + 1) _ _ (by omega) (by rw [juF_ne (by decide)]; exact t1) (by rw [juF_ne (by decide)]; exact t2) hg2
  exact L N 0 _ _ (by omega) hP hQ hres.symm
end
section
/-! what the public calls answer, in words common to the class and the reference -/
def xN (x : Int32) : Nat := x.toNatClampNeg
theorem xN_nI {p : Nat} (h : p < 2 ^ 31) : xN (nI p) = p := nI_clamp h
theorem inF_of {x : Int32} {P : Nat} (h12 : P < 2 ^ 31) (h : ¬ inF x (nI P) = 0) : ∃ p, p < P ∧ x = nI p := by
  unfold inF at h
  by_cases c : 0 ≤ x ∧ x < nI P
  · obtain ⟨c1, c2⟩ := c
    obtain ⟨j, hj, rfl⟩ := nI_of (x := x) (fun z => by rw [Int32.lt_iff_toInt_lt] at z; rw [Int32.le_iff_toInt_le] at c1; omega)
    exact ⟨j, (nI_ltI hj h12).mp c2, rfl⟩
  · exact absurd (if_neg c) h
theorem inF_nI {p P : Nat} (h : p < P) (h12 : P < 2 ^ 31) : inF (nI p) (nI P) = 1 := by
  unfold inF
  exact if_pos ⟨nI_pos' (by omega), (nI_ltI (by omega) h12).mpr h⟩
theorem inF_n0 {p P : Nat} (h : p < P) (h12 : P < 2 ^ 31) : ¬ inF (nI p) (nI P) = 0 := by
  rw [inF_nI h h12]
  decide
def personR (P : Nat) (b : Int32) : Int32 := if withinF b 0 2000 = 0 then (-102) else if 12 ≤ P then (-104) else nI P
def roomR (N Q : Nat) : Int32 := if N ≤ Q then (-104) else nI Q
def voteR (P Q : Nat) (v : Nat → Nat → Int32) (b : Nat → Int32) (x y z : Int32) : Int32 := if inF x (nI P) = 0 ∨ inF y (nI Q) = 0 then (-101) else if withinF z (-40) 40 = 0 then (-102) else if b (xN x) < costF v Q (xN x) - v (xN x) (xN y) * v (xN x) (xN y) + z * z then (-103) else costF v Q (xN x) - v (xN x) (xN y) * v (xN x) (xN y) + z * z
def voteW (P Q : Nat) (v : Nat → Nat → Int32) (b : Nat → Int32) (x y z : Int32) : Prop := ¬ (inF x (nI P) = 0 ∨ inF y (nI Q) = 0) ∧ ¬ withinF z (-40) 40 = 0 ∧ ¬ b (xN x) < costF v Q (xN x) - v (xN x) (xN y) * v (xN x) (xN y) + z * z
/-- what it was, where x, y are named and z is in bounds -/
def wasR (P Q : Nat) (w : Nat → Nat → Int32) (lo hi : Int32) (x y z : Int32) : Int32 := if inF x (nI P) = 0 ∨ inF y (nI Q) = 0 then (-101) else if withinF z lo hi = 0 then (-102) else w (xN x) (xN y)
def wasW (P Q : Nat) (lo hi : Int32) (x y z : Int32) : Prop := ¬ (inF x (nI P) = 0 ∨ inF y (nI Q) = 0) ∧ ¬ withinF z lo hi = 0
def hereR (P : Nat) (h : Nat → Int32) (x : Int32) : Int32 := if inF x (nI P) = 0 then (-101) else onF (h (xN x))
def twoR (P Q : Nat) (bad : Int32) (f : Nat → Nat → Int32) (x y : Int32) : Int32 := if inF x (nI P) = 0 ∨ inF y (nI Q) = 0 then bad else f (xN x) (xN y)
def oneR (P : Nat) (bad : Int32) (f : Nat → Int32) (x : Int32) : Int32 := if inF x (nI P) = 0 then bad else f (xN x)
def bondR (P : Nat) (b : Nat → Nat → Int32) (x y z : Int32) : Int32 := if inF x (nI P) = 0 ∨ inF y (nI P) = 0 then (-101) else if x = y ∨ withinF z 0 1000 = 0 then (-102) else b (xN x) (xN y)
def bondW (P : Nat) (x y z : Int32) : Prop := ¬ (inF x (nI P) = 0 ∨ inF y (nI P) = 0) ∧ ¬ (x = y ∨ withinF z 0 1000 = 0)
def matchedR (R : Nat) (lo hi : Nat → Int64) (x z : Int32) : Int64 := if inF x (nI R) = 0 then (-101) else if withinF z 0 1 = 0 then (-102) else if z = 0 then lo (xN x) else hi (xN x)
def shareR (R : Nat) (f : Nat → Int64 → Int64) (x : Int32) (pot : Int64) : Int64 := if inF x (nI R) = 0 then (-101) else if pot < 0 ∨ 1000000000 < pot then (-102) else f (xN x) pot
def shareW (R : Nat) (x : Int32) (pot : Int64) : Prop := ¬ inF x (nI R) = 0 ∧ ¬ (pot < 0 ∨ 1000000000 < pot)
def dampedR (R : Nat) (f : Nat → Int64) (x : Int32) : Int64 := if inF x (nI R) = 0 then (-101) else f (xN x)
def groupR (P : Nat) (f : Nat → Int32) (x t : Int32) : Int32 := if inF x (nI P) = 0 then (-101) else if withinF t 1 1000 = 0 then (-102) else f (xN x)
def countR (a0 a1 a2 a3 a4 a5 : Int32) (x : Int32) : Int32 := if x = 0 then a0 else if x = 1 then a1 else if x = 2 then a2 else if x = 3 then a3 else if x = 4 then a4 else if x = 5 then a5 else (-102)
def takeR (P : Nat) (h : Nat → Int32) (f : Nat → Int32) (x : Int32) : Int32 := if inF x (nI P) = 0 then (-101) else if h (xN x) = 0 then (-103) else f (xN x)
def takeW (P : Nat) (h : Nat → Int32) (x : Int32) : Prop := ¬ inF x (nI P) = 0 ∧ ¬ h (xN x) = 0
def playR (f : Nat → Int32) (x : Int32) : Int32 := if withinF x 1 30 = 0 then (-102) else f (xN x)
theorem within_of {x a b : Int32} (h : ¬ withinF x a b = 0) : a ≤ x ∧ x ≤ b := by
  unfold withinF at h
  by_cases c : a ≤ x ∧ x ≤ b
  · exact c
  · exact absurd (if_neg c) h
/-- the digest: of each person, then seed, rounds, changes -/
def dgF (f : Nat → Int64 → Int64) : Nat → Int64 → Int64
  | 0, z => z
  | p + 1, z => f p (dgF f p z)
def digestR (f : Nat → Int64 → Int64) (P : Nat) (a b c : Int32) : Int64 := 31 * (31 * (31 * dgF f P 103 + a.toInt64) + b.toInt64) + c.toInt64
noncomputable def hx_if {α : Sort _} (c : Prop) (a b : α) : α := @ite α c (Classical.propDecidable c) a b
theorem hx_ifp {α : Sort _} {c : Prop} {a b : α} (h : c) : hx_if c a b = a := by unfold hx_if; exact if_pos h
theorem hx_ifn {α : Sort _} {c : Prop} {a b : α} (h : ¬ c) : hx_if c a b = b := by unfold hx_if; exact if_neg h
theorem hx_far {x : Int32} (c0 : ¬ x = 0) (c1 : ¬ x = 1) (c2 : ¬ x = 2) (c3 : ¬ x = 3) (c4 : ¬ x = 4) (c5 : ¬ x = 5) : x.toInt < 0 ∨ 5 < x.toInt := by
  have e0 : (0 : Int32).toInt = 0 := by decide
  have e1 : (1 : Int32).toInt = 1 := by decide
  have e2 : (2 : Int32).toInt = 2 := by decide
  have e3 : (3 : Int32).toInt = 3 := by decide
  have e4 : (4 : Int32).toInt = 4 := by decide
  have e5 : (5 : Int32).toInt = 5 := by decide
  rw [← Int32.toInt_inj] at c0 c1 c2 c3 c4 c5
  omega
end
section
/-! the public calls of the class -/
set_option maxHeartbeats 400000 in
theorem c_X4_isWithin {l : Launch} {D : va_G} {ad : Nat → Nat} {cy : Nat → ClassId} (hi : hx_inj ad) (I : MI) (J : MJ) (x a b : Int32) : Ct l D ad cy yX4_isWithin cX4_isWithin 3 (some .boolean) 0 [.int x, .int a, .int b] I J (hx_is (some (.int (withinF x a b))) I J) := by
  refine ct_start hi (by decide +kernel) (Nat.le_of_ble_eq_true rfl) (fun X hX hT => ?_)
  show X 0 [(0, .int x), (1, .int a), (2, .int b)] [] I J
  refine wl_iload_n hX 0 rfl dX4_isWithin_0 ?_
  refine wl_iload_n hX 1 rfl dX4_isWithin_1 ?_
  refine wl_icmp_lt hX (tgt := 14) dX4_isWithin_2 (by decide) (fun h1 => ?_) (fun h1 => ?_)
  · refine wl_iconst hX (v := 0) dX4_isWithin_14 (by decide) ?_
    exact wl_zreturn hT dX4_isWithin_15 (by decide) (hx_ri (if_neg (fun z => by have z1 := Int32.le_iff_toInt_le.mp z.1; rw [Int32.lt_iff_toInt_lt] at h1; omega)).symm)
  · refine wl_iload_n hX 0 rfl dX4_isWithin_5 ?_
    refine wl_iload_n hX 2 rfl dX4_isWithin_6 ?_
    refine wl_icmp_gt hX (tgt := 14) dX4_isWithin_7 (by decide) (fun h2 => ?_) (fun h2 => ?_)
    · refine wl_iconst hX (v := 0) dX4_isWithin_14 (by decide) ?_
      exact wl_zreturn hT dX4_isWithin_15 (by decide) (hx_ri (if_neg (fun z => by have z1 := Int32.le_iff_toInt_le.mp z.2; rw [Int32.lt_iff_toInt_lt] at h2; omega)).symm)
    · refine wl_iconst hX (v := 1) dX4_isWithin_10 (by decide) ?_
      refine wl_goto hX (tgt := 15) dX4_isWithin_11 (by decide) ?_
      exact wl_zreturn hT dX4_isWithin_15 (by decide) (hx_ri (if_pos ⟨by rw [Int32.le_iff_toInt_le]; rw [Int32.lt_iff_toInt_lt] at h1; omega, by rw [Int32.le_iff_toInt_le]; rw [Int32.lt_iff_toInt_lt] at h2; omega⟩).symm)

set_option maxHeartbeats 400000 in
theorem c_X4_person {l : Launch} {D : va_G} {ad : Nat → Nat} {cy : Nat → ClassId} (hi : hx_inj ad) (I : MI) (J : MJ) (b : Int32) (P : Nat) (hP : I 1 0 = nI P) (hP12 : P ≤ 12) : Ct l D ad cy yX4_person cX4_person 2 (some .int) 1 [.ref (ad 0), .int b] I J (hx_is (some (.int (personR P b))) (hx_if (¬ withinF b 0 2000 = 0 ∧ P < 12) (hx_u (hx_u (hx_u I 6 P b) 7 P 1) 1 0 (nI (P + 1))) I) J) := by
  refine ct_start hi (by decide +kernel) (Nat.le_of_ble_eq_true rfl) (fun X hX hT => ?_)
  show X 0 [(0, .ref (ad 0)), (1, .int b)] [] I J
  refine wl_iload_n hX 1 rfl dX4_person_0 ?_
  refine wl_iconst hX (v := 0) dX4_person_1 (by decide) ?_
  refine wl_sipush hX (v := 2000) dX4_person_2 (by decide) ?_
  refine wl_cSi hX (c_X4_isWithin hi I J b 0 2000) mv_X4_isWithin tb_206 rfl rfl (by omega) (Nat.le_of_ble_eq_true rfl) dX4_person_5 ?_
  refine wl_if_ne hX (tgt := 14) dX4_person_8 (by decide) (fun h1 => ?_) (fun h1 => ?_)
  · refine wl_aload_n hX 0 rfl dX4_person_14 ?_
    refine gf_X4_0 hX tb_189 dX4_person_15 ?_
    refine gf_X1_0 hX tb_50 dX4_person_18 ?_
    refine wl_eqi (y := nI P) hP ?_
    refine wl_bipush hX (v := 12) dX4_person_21 (by decide) ?_
    refine wl_icmp_lt hX (tgt := 29) dX4_person_23 (by decide) (fun h2 => ?_) (fun h2 => ?_)
    · have k2 : P < 12 := (nI_ltI (b := 12) (by omega) (by omega)).mp h2
      rw [hx_ifp ⟨h1, k2⟩] at hT
      refine wl_aload_n hX 0 rfl dX4_person_29 ?_
      refine gf_X4_0 hX tb_189 dX4_person_30 ?_
      refine wl_iload_n hX 1 rfl dX4_person_33 ?_
      refine wl_cVi hX (c_X1_addPerson hi I J b P hP k2) mv_X1_addPerson tb_209 (by decide) rfl rfl rfl rfl (by omega) (Nat.le_of_ble_eq_true rfl) dX4_person_34 ?_
      exact wl_ireturn hT dX4_person_37 (hx_ri (by unfold personR; rw [if_neg h1, if_neg (by omega)]))
    · have k2 : 12 ≤ P := Nat.le_of_not_lt (fun z => h2 ((nI_ltI (b := 12) (by omega) (by omega)).mpr z))
      rw [hx_ifn (fun z => by have := z.2; omega)] at hT
      refine wl_bipush hX (v := (-104)) dX4_person_26 (by decide) ?_
      exact wl_ireturn hT dX4_person_28 (hx_ri (by unfold personR; rw [if_neg h1, if_pos k2]))
  · rw [hx_ifn (fun z => z.1 h1)] at hT
    refine wl_bipush hX (v := (-102)) dX4_person_11 (by decide) ?_
    exact wl_ireturn hT dX4_person_13 (hx_ri (by unfold personR; rw [if_pos h1]))

set_option maxHeartbeats 400000 in
theorem c_X4_question {l : Launch} {D : va_G} {ad : Nat → Nat} {cy : Nat → ClassId} (hi : hx_inj ad) (I : MI) (J : MJ) (Q : Nat) (hQ : I 1 1 = nI Q) (hQ6 : Q ≤ 6) : Ct l D ad cy yX4_question cX4_question 1 (some .int) 0 [.ref (ad 0)] I J (hx_is (some (.int (roomR 6 Q))) (hx_if (Q < 6) (hx_u I 1 1 (nI (Q + 1))) I) J) := by
  refine ct_start hi (by decide +kernel) (Nat.le_of_ble_eq_true rfl) (fun X hX hT => ?_)
  show X 0 [(0, .ref (ad 0))] [] I J
  refine wl_aload_n hX 0 rfl dX4_question_0 ?_
  refine gf_X4_0 hX tb_189 dX4_question_1 ?_
  refine gf_X1_1 hX tb_54 dX4_question_4 ?_
  refine wl_eqi (y := nI Q) hQ ?_
  refine wl_bipush hX (v := 6) dX4_question_7 (by decide) ?_
  refine wl_icmp_lt hX (tgt := 15) dX4_question_9 (by decide) (fun h1 => ?_) (fun h1 => ?_)
  · have k2 : Q < 6 := (nI_ltI (b := 6) (by omega) (by omega)).mp h1
    rw [hx_ifp k2] at hT
    refine wl_aload_n hX 0 rfl dX4_question_15 ?_
    refine gf_X4_0 hX tb_189 dX4_question_16 ?_
    refine wl_dup hX dX4_question_19 rfl ?_
    refine gf_X1_1 hX tb_54 dX4_question_20 ?_
    refine wl_eqi (y := nI Q) hQ ?_
    refine wl_iconst hX (v := 1) dX4_question_23 (by decide) ?_
    refine wl_iadd hX dX4_question_24 ?_
    refine wl_eqi (y := nI (Q + 1)) (nI_1 Q) ?_
    refine pf_X1_1 hX tb_54 dX4_question_25 ?_
    refine wl_aload_n hX 0 rfl dX4_question_28 ?_
    refine gf_X4_0 hX tb_189 dX4_question_29 ?_
    refine gf_X1_1 hX tb_54 dX4_question_32 ?_
    refine wl_iconst hX (v := 1) dX4_question_35 (by decide) ?_
    refine wl_isub hX dX4_question_36 ?_
    exact wl_ireturn hT dX4_question_37 (hx_ri (by unfold roomR; rw [if_neg (by omega)]; exact nI_pred Q))
  · have k2 : 6 ≤ Q := Nat.le_of_not_lt (fun z => h1 ((nI_ltI (b := 6) (by omega) (by omega)).mpr z))
    rw [hx_ifn (by omega)] at hT
    refine wl_bipush hX (v := (-104)) dX4_question_12 (by decide) ?_
    exact wl_ireturn hT dX4_question_14 (hx_ri (by unfold roomR; rw [if_pos k2]))

set_option maxHeartbeats 400000 in
theorem c_X4_project {l : Launch} {D : va_G} {ad : Nat → Nat} {cy : Nat → ClassId} (hi : hx_inj ad) (I : MI) (J : MJ) (R : Nat) (hR : I 4 1 = nI R) (hR6 : R ≤ 6) : Ct l D ad cy yX4_project cX4_project 1 (some .int) 0 [.ref (ad 0)] I J (hx_is (some (.int (roomR 6 R))) (hx_if (R < 6) (hx_u I 4 1 (nI (R + 1))) I) J) := by
  refine ct_start hi (by decide +kernel) (Nat.le_of_ble_eq_true rfl) (fun X hX hT => ?_)
  show X 0 [(0, .ref (ad 0))] [] I J
  refine wl_aload_n hX 0 rfl dX4_project_0 ?_
  refine gf_X4_3 hX tb_192 dX4_project_1 ?_
  refine gf_X0_1 hX tb_172 dX4_project_4 ?_
  refine wl_eqi (y := nI R) hR ?_
  refine wl_bipush hX (v := 6) dX4_project_7 (by decide) ?_
  refine wl_icmp_lt hX (tgt := 15) dX4_project_9 (by decide) (fun h1 => ?_) (fun h1 => ?_)
  · have k2 : R < 6 := (nI_ltI (b := 6) (by omega) (by omega)).mp h1
    rw [hx_ifp k2] at hT
    refine wl_aload_n hX 0 rfl dX4_project_15 ?_
    refine gf_X4_3 hX tb_192 dX4_project_16 ?_
    refine wl_dup hX dX4_project_19 rfl ?_
    refine gf_X0_1 hX tb_172 dX4_project_20 ?_
    refine wl_eqi (y := nI R) hR ?_
    refine wl_iconst hX (v := 1) dX4_project_23 (by decide) ?_
    refine wl_iadd hX dX4_project_24 ?_
    refine wl_eqi (y := nI (R + 1)) (nI_1 R) ?_
    refine pf_X0_1 hX tb_172 dX4_project_25 ?_
    refine wl_aload_n hX 0 rfl dX4_project_28 ?_
    refine gf_X4_3 hX tb_192 dX4_project_29 ?_
    refine gf_X0_1 hX tb_172 dX4_project_32 ?_
    refine wl_iconst hX (v := 1) dX4_project_35 (by decide) ?_
    refine wl_isub hX dX4_project_36 ?_
    exact wl_ireturn hT dX4_project_37 (hx_ri (by unfold roomR; rw [if_neg (by omega)]; exact nI_pred R))
  · have k2 : 6 ≤ R := Nat.le_of_not_lt (fun z => h1 ((nI_ltI (b := 6) (by omega) (by omega)).mpr z))
    rw [hx_ifn (by omega)] at hT
    refine wl_bipush hX (v := (-104)) dX4_project_12 (by decide) ?_
    exact wl_ireturn hT dX4_project_14 (hx_ri (by unfold roomR; rw [if_pos k2]))

set_option maxHeartbeats 400000 in
theorem c_X4_seed {l : Launch} {D : va_G} {ad : Nat → Nat} {cy : Nat → ClassId} (hi : hx_inj ad) (I : MI) (J : MJ) (x : Int32) : Ct l D ad cy yX4_seed cX4_seed 3 (some .int) 0 [.ref (ad 0), .int x] I J (hx_is (some (.int (I 1 2))) (hx_u I 1 2 x) J) := by
  refine ct_start hi (by decide +kernel) (Nat.le_of_ble_eq_true rfl) (fun X hX hT => ?_)
  show X 0 [(0, .ref (ad 0)), (1, .int x)] [] I J
  refine wl_aload_n hX 0 rfl dX4_seed_0 ?_
  refine gf_X4_0 hX tb_189 dX4_seed_1 ?_
  refine gf_X1_2 hX tb_56 dX4_seed_4 ?_
  refine wl_istore_n hX (lv' := [(2, .int (I 1 2)), (0, .ref (ad 0)), (1, .int x)]) rfl (by decide) dX4_seed_7 ?_
  refine wl_aload_n hX 1 rfl dX4_seed_8 ?_
  refine gf_X4_0 hX tb_189 dX4_seed_9 ?_
  refine wl_iload_n hX 2 rfl dX4_seed_12 ?_
  refine pf_X1_2 hX tb_56 dX4_seed_13 ?_
  refine wl_iload_n hX 0 rfl dX4_seed_16 ?_
  exact wl_ireturn hT dX4_seed_17 ⟨rfl, rfl, rfl⟩

set_option maxHeartbeats 400000 in
theorem c_X4_vote {l : Launch} {D : va_G} {ad : Nat → Nat} {cy : Nat → ClassId} (hi : hx_inj ad) (I : MI) (J : MJ) (x y z : Int32) (P : Nat) (hP : I 1 0 = nI P) (hP12 : P ≤ 12) (Q : Nat) (hQ : I 1 1 = nI Q) (hQ6 : Q ≤ 6) : Ct l D ad cy yX4_vote cX4_vote 6 (some .int) 1 [.ref (ad 0), .int x, .int y, .int z] I J (hx_is (some (.int (voteR P Q (vC I) (I 6) x y z))) (hx_if (voteW P Q (vC I) (I 6) x y z) (hx_u I (33 + xN x) (xN y) z) I) J) := by
  refine ct_start hi (by decide +kernel) (Nat.le_of_ble_eq_true rfl) (fun X hX hT => ?_)
  show X 0 [(0, .ref (ad 0)), (1, .int x), (2, .int y), (3, .int z)] [] I J
  refine wl_aload_n hX 0 rfl dX4_vote_0 ?_
  refine gf_X4_0 hX tb_189 dX4_vote_1 ?_
  refine wl_iload_n hX 1 rfl dX4_vote_4 ?_
  refine wl_cVi hX (c_X1_hasPerson hi I J x) mv_X1_hasPerson tb_229 (by decide) rfl rfl rfl rfl (by omega) (Nat.le_of_ble_eq_true rfl) dX4_vote_5 ?_
  refine wl_eqi (y := inF x (nI P)) (by rw [hP]) ?_
  refine wl_if_eq hX (tgt := 22) dX4_vote_8 (by decide) (fun h1 => ?_) (fun h1 => ?_)
  · rw [hx_ifn (fun w => w.1 (Or.inl h1))] at hT
    refine wl_bipush hX (v := (-101)) dX4_vote_22 (by decide) ?_
    exact wl_ireturn hT dX4_vote_24 (hx_ri (by unfold voteR; rw [if_pos (Or.inl h1)]))
  · refine wl_aload_n hX 0 rfl dX4_vote_11 ?_
    refine gf_X4_0 hX tb_189 dX4_vote_12 ?_
    refine wl_iload_n hX 2 rfl dX4_vote_15 ?_
    refine wl_cVi hX (c_X1_hasQuestion hi I J y) mv_X1_hasQuestion tb_233 (by decide) rfl rfl rfl rfl (by omega) (Nat.le_of_ble_eq_true rfl) dX4_vote_16 ?_
    refine wl_eqi (y := inF y (nI Q)) (by rw [hQ]) ?_
    refine wl_if_ne hX (tgt := 25) dX4_vote_19 (by decide) (fun h2 => ?_) (fun h2 => ?_)
    · have kb : ¬ (inF x (nI P) = 0 ∨ inF y (nI Q) = 0) := fun z => z.elim h1 h2
      obtain ⟨p, hp, rfl⟩ := inF_of (by omega) h1
      obtain ⟨q, hq, rfl⟩ := inF_of (by omega) h2
      have xp : xN (nI p) = p := xN_nI (by omega)
      have xq : xN (nI q) = q := xN_nI (by omega)
      refine wl_iload_n hX 3 rfl dX4_vote_25 ?_
      refine wl_bipush hX (v := (-40)) dX4_vote_26 (by decide) ?_
      refine wl_bipush hX (v := 40) dX4_vote_28 (by decide) ?_
      refine wl_cSi hX (c_X4_isWithin hi I J z (-40) 40) mv_X4_isWithin tb_206 rfl rfl (by omega) (Nat.le_of_ble_eq_true rfl) dX4_vote_30 ?_
      refine wl_if_ne hX (tgt := 39) dX4_vote_33 (by decide) (fun h3 => ?_) (fun h3 => ?_)
      · refine wl_aload_n hX 0 rfl dX4_vote_39 ?_
        refine gf_X4_0 hX tb_189 dX4_vote_40 ?_
        refine gf_X1_5 hX tb_66 dX4_vote_43 ?_
        refine wl_iload_n hX 1 rfl dX4_vote_46 ?_
        refine wl_aald4 hX p kc_8 rfl (by omega) dX4_vote_47 ?_
        refine wl_iload_n hX 2 rfl dX4_vote_48 ?_
        refine wl_iald hX q (kd_33 (by omega)) rfl (by omega) dX4_vote_49 ?_
        refine wl_istore hX (lv' := [(4, .int (I (33 + p) q)), (0, .ref (ad 0)), (1, .int (nI p)), (2, .int (nI q)), (3, .int z)]) rfl (by decide) dX4_vote_50 ?_
        refine wl_aload_n hX 1 rfl dX4_vote_52 ?_
        refine gf_X4_0 hX tb_189 dX4_vote_53 ?_
        refine wl_iload_n hX 2 rfl dX4_vote_56 ?_
        refine wl_cVi hX (c_X1_costOf hi I J p (by omega) Q hQ hQ6) mv_X1_costOf tb_237 (by decide) rfl rfl rfl rfl (by omega) (Nat.le_of_ble_eq_true rfl) dX4_vote_57 ?_
        refine wl_iload hX 0 rfl dX4_vote_60 ?_
        refine wl_iload hX 0 rfl dX4_vote_62 ?_
        refine wl_imul hX dX4_vote_64 ?_
        refine wl_isub hX dX4_vote_65 ?_
        refine wl_iload_n hX 4 rfl dX4_vote_66 ?_
        refine wl_iload_n hX 4 rfl dX4_vote_67 ?_
        refine wl_imul hX dX4_vote_68 ?_
        refine wl_iadd hX dX4_vote_69 ?_
        refine wl_istore hX (lv' := [(5, .int (((costF (vC I) Q p) - ((I (33 + p) q) * (I (33 + p) q))) + (z * z))), (4, .int (I (33 + p) q)), (0, .ref (ad 0)), (1, .int (nI p)), (2, .int (nI q)), (3, .int z)]) rfl (by decide) dX4_vote_70 ?_
        refine wl_iload hX 0 rfl dX4_vote_72 ?_
        refine wl_aload_n hX 2 rfl dX4_vote_74 ?_
        refine gf_X4_0 hX tb_189 dX4_vote_75 ?_
        refine gf_X1_3 hX tb_60 dX4_vote_78 ?_
        refine wl_iload_n hX 3 rfl dX4_vote_81 ?_
        refine wl_iald hX p kc_6 rfl (by omega) dX4_vote_82 ?_
        refine wl_icmp_le hX (tgt := 89) dX4_vote_83 (by decide) (fun h4 => ?_) (fun h4 => ?_)
        · have k4 : ¬ I 6 p < costF (vC I) Q p - I (33 + p) q * I (33 + p) q + z * z := fun w => by rw [Int32.lt_iff_toInt_lt] at w; rw [Int32.le_iff_toInt_le] at h4; omega
          rw [hx_ifp ⟨kb, h3, by rw [xp, xq]; exact k4⟩, xp, xq] at hT
          refine wl_aload_n hX 2 rfl dX4_vote_89 ?_
          refine gf_X4_0 hX tb_189 dX4_vote_90 ?_
          refine gf_X1_5 hX tb_66 dX4_vote_93 ?_
          refine wl_iload_n hX 3 rfl dX4_vote_96 ?_
          refine wl_aald4 hX p kc_8 rfl (by omega) dX4_vote_97 ?_
          refine wl_iload_n hX 4 rfl dX4_vote_98 ?_
          refine wl_iload_n hX 5 rfl dX4_vote_99 ?_
          refine wl_iast hX q (kd_33 (by omega)) rfl (by omega) dX4_vote_100 ?_
          refine wl_iload hX 0 rfl dX4_vote_101 ?_
          exact wl_ireturn hT dX4_vote_103 (hx_ri (by unfold voteR; rw [if_neg kb, if_neg h3, xp, xq]; exact (if_neg k4).symm))
        · have k4 : I 6 p < costF (vC I) Q p - I (33 + p) q * I (33 + p) q + z * z := by rw [Int32.lt_iff_toInt_lt]; rw [Int32.le_iff_toInt_le] at h4; omega
          rw [hx_ifn (fun w => w.2.2 (by rw [xp, xq]; exact k4))] at hT
          refine wl_bipush hX (v := (-103)) dX4_vote_86 (by decide) ?_
          exact wl_ireturn hT dX4_vote_88 (hx_ri (by unfold voteR; rw [if_neg kb, if_neg h3, xp, xq]; exact (if_pos k4).symm))
      · rw [hx_ifn (fun w => w.2.1 h3)] at hT
        refine wl_bipush hX (v := (-102)) dX4_vote_36 (by decide) ?_
        exact wl_ireturn hT dX4_vote_38 (hx_ri (by unfold voteR; rw [if_neg kb, if_pos h3]))
    · rw [hx_ifn (fun w => w.1 (Or.inr h2))] at hT
      refine wl_bipush hX (v := (-101)) dX4_vote_22 (by decide) ?_
      exact wl_ireturn hT dX4_vote_24 (hx_ri (by unfold voteR; rw [if_pos (Or.inr h2)]))

set_option maxHeartbeats 400000 in
theorem c_X4_worth {l : Launch} {D : va_G} {ad : Nat → Nat} {cy : Nat → ClassId} (hi : hx_inj ad) (I : MI) (J : MJ) (x y z : Int32) (P : Nat) (hP : I 1 0 = nI P) (hP12 : P ≤ 12) (Q : Nat) (hQ : I 1 1 = nI Q) (hQ6 : Q ≤ 6) : Ct l D ad cy yX4_worth cX4_worth 5 (some .int) 1 [.ref (ad 0), .int x, .int y, .int z] I J (hx_is (some (.int (wasR P Q (wC I) (-1000) 1000 x y z))) (hx_if (wasW P Q (-1000) 1000 x y z) (hx_u I (45 + xN x) (xN y) z) I) J) := by
  refine ct_start hi (by decide +kernel) (Nat.le_of_ble_eq_true rfl) (fun X hX hT => ?_)
  show X 0 [(0, .ref (ad 0)), (1, .int x), (2, .int y), (3, .int z)] [] I J
  refine wl_aload_n hX 0 rfl dX4_worth_0 ?_
  refine gf_X4_0 hX tb_189 dX4_worth_1 ?_
  refine wl_iload_n hX 1 rfl dX4_worth_4 ?_
  refine wl_cVi hX (c_X1_hasPerson hi I J x) mv_X1_hasPerson tb_229 (by decide) rfl rfl rfl rfl (by omega) (Nat.le_of_ble_eq_true rfl) dX4_worth_5 ?_
  refine wl_eqi (y := inF x (nI P)) (by rw [hP]) ?_
  refine wl_if_eq hX (tgt := 22) dX4_worth_8 (by decide) (fun h1 => ?_) (fun h1 => ?_)
  · rw [hx_ifn (fun w => w.1 (Or.inl h1))] at hT
    refine wl_bipush hX (v := (-101)) dX4_worth_22 (by decide) ?_
    exact wl_ireturn hT dX4_worth_24 (hx_ri (by unfold wasR; rw [if_pos (Or.inl h1)]))
  · refine wl_aload_n hX 0 rfl dX4_worth_11 ?_
    refine gf_X4_0 hX tb_189 dX4_worth_12 ?_
    refine wl_iload_n hX 2 rfl dX4_worth_15 ?_
    refine wl_cVi hX (c_X1_hasQuestion hi I J y) mv_X1_hasQuestion tb_233 (by decide) rfl rfl rfl rfl (by omega) (Nat.le_of_ble_eq_true rfl) dX4_worth_16 ?_
    refine wl_eqi (y := inF y (nI Q)) (by rw [hQ]) ?_
    refine wl_if_ne hX (tgt := 25) dX4_worth_19 (by decide) (fun h2 => ?_) (fun h2 => ?_)
    · have kb : ¬ (inF x (nI P) = 0 ∨ inF y (nI Q) = 0) := fun z => z.elim h1 h2
      obtain ⟨p, hp, rfl⟩ := inF_of (by omega) h1
      obtain ⟨q, hq, rfl⟩ := inF_of (by omega) h2
      have xp : xN (nI p) = p := xN_nI (by omega)
      have xq : xN (nI q) = q := xN_nI (by omega)
      refine wl_iload_n hX 3 rfl dX4_worth_25 ?_
      refine wl_sipush hX (v := (-1000)) dX4_worth_26 (by decide) ?_
      refine wl_sipush hX (v := 1000) dX4_worth_29 (by decide) ?_
      refine wl_cSi hX (c_X4_isWithin hi I J z (-1000) 1000) mv_X4_isWithin tb_206 rfl rfl (by omega) (Nat.le_of_ble_eq_true rfl) dX4_worth_32 ?_
      refine wl_if_ne hX (tgt := 41) dX4_worth_35 (by decide) (fun h3 => ?_) (fun h3 => ?_)
      · rw [hx_ifp ⟨kb, h3⟩, xp, xq] at hT
        refine wl_aload_n hX 0 rfl dX4_worth_41 ?_
        refine gf_X4_0 hX tb_189 dX4_worth_42 ?_
        refine gf_X1_6 hX tb_69 dX4_worth_45 ?_
        refine wl_iload_n hX 1 rfl dX4_worth_48 ?_
        refine wl_aald4 hX p kc_9 rfl (by omega) dX4_worth_49 ?_
        refine wl_iload_n hX 2 rfl dX4_worth_50 ?_
        refine wl_iald hX q (kd_45 (by omega)) rfl (by omega) dX4_worth_51 ?_
        refine wl_istore hX (lv' := [(4, .int (I (45 + p) q)), (0, .ref (ad 0)), (1, .int (nI p)), (2, .int (nI q)), (3, .int z)]) rfl (by decide) dX4_worth_52 ?_
        refine wl_aload_n hX 1 rfl dX4_worth_54 ?_
        refine gf_X4_0 hX tb_189 dX4_worth_55 ?_
        refine gf_X1_6 hX tb_69 dX4_worth_58 ?_
        refine wl_iload_n hX 2 rfl dX4_worth_61 ?_
        refine wl_aald4 hX p kc_9 rfl (by omega) dX4_worth_62 ?_
        refine wl_iload_n hX 3 rfl dX4_worth_63 ?_
        refine wl_iload_n hX 4 rfl dX4_worth_64 ?_
        refine wl_iast hX q (kd_45 (by omega)) rfl (by omega) dX4_worth_65 ?_
        refine wl_iload hX 0 rfl dX4_worth_66 ?_
        exact wl_ireturn hT dX4_worth_68 (hx_ri (by unfold wasR; rw [if_neg kb, if_neg h3, xp, xq]; rfl))
      · rw [hx_ifn (fun w => w.2 h3)] at hT
        refine wl_bipush hX (v := (-102)) dX4_worth_38 (by decide) ?_
        exact wl_ireturn hT dX4_worth_40 (hx_ri (by unfold wasR; rw [if_neg kb, if_pos h3]))
    · rw [hx_ifn (fun w => w.1 (Or.inr h2))] at hT
      refine wl_bipush hX (v := (-101)) dX4_worth_22 (by decide) ?_
      exact wl_ireturn hT dX4_worth_24 (hx_ri (by unfold wasR; rw [if_pos (Or.inr h2)]))

set_option maxHeartbeats 400000 in
theorem c_X4_gift {l : Launch} {D : va_G} {ad : Nat → Nat} {cy : Nat → ClassId} (hi : hx_inj ad) (I : MI) (J : MJ) (x y z : Int32) (P : Nat) (hP : I 1 0 = nI P) (hP12 : P ≤ 12) (R : Nat) (hR : I 4 1 = nI R) (hR6 : R ≤ 6) : Ct l D ad cy yX4_gift cX4_gift 5 (some .int) 1 [.ref (ad 0), .int x, .int y, .int z] I J (hx_is (some (.int (wasR P R (gC I) 0 1000000 x y z))) (hx_if (wasW P R 0 1000000 x y z) (hx_u I (100 + xN x) (xN y) z) I) J) := by
  refine ct_start hi (by decide +kernel) (Nat.le_of_ble_eq_true rfl) (fun X hX hT => ?_)
  show X 0 [(0, .ref (ad 0)), (1, .int x), (2, .int y), (3, .int z)] [] I J
  refine wl_aload_n hX 0 rfl dX4_gift_0 ?_
  refine gf_X4_0 hX tb_189 dX4_gift_1 ?_
  refine wl_iload_n hX 1 rfl dX4_gift_4 ?_
  refine wl_cVi hX (c_X1_hasPerson hi I J x) mv_X1_hasPerson tb_229 (by decide) rfl rfl rfl rfl (by omega) (Nat.le_of_ble_eq_true rfl) dX4_gift_5 ?_
  refine wl_eqi (y := inF x (nI P)) (by rw [hP]) ?_
  refine wl_if_eq hX (tgt := 22) dX4_gift_8 (by decide) (fun h1 => ?_) (fun h1 => ?_)
  · rw [hx_ifn (fun w => w.1 (Or.inl h1))] at hT
    refine wl_bipush hX (v := (-101)) dX4_gift_22 (by decide) ?_
    exact wl_ireturn hT dX4_gift_24 (hx_ri (by unfold wasR; rw [if_pos (Or.inl h1)]))
  · refine wl_aload_n hX 0 rfl dX4_gift_11 ?_
    refine gf_X4_3 hX tb_192 dX4_gift_12 ?_
    refine wl_iload_n hX 2 rfl dX4_gift_15 ?_
    refine wl_cVi hX (c_X0_hasProject hi I J y) mv_X0_hasProject tb_391 (by decide) rfl rfl rfl rfl (by omega) (Nat.le_of_ble_eq_true rfl) dX4_gift_16 ?_
    refine wl_eqi (y := inF y (nI R)) (by rw [hR]) ?_
    refine wl_if_ne hX (tgt := 25) dX4_gift_19 (by decide) (fun h2 => ?_) (fun h2 => ?_)
    · have kb : ¬ (inF x (nI P) = 0 ∨ inF y (nI R) = 0) := fun z => z.elim h1 h2
      obtain ⟨p, hp, rfl⟩ := inF_of (by omega) h1
      obtain ⟨q, hq, rfl⟩ := inF_of (by omega) h2
      have xp : xN (nI p) = p := xN_nI (by omega)
      have xq : xN (nI q) = q := xN_nI (by omega)
      refine wl_iload_n hX 3 rfl dX4_gift_25 ?_
      refine wl_iconst hX (v := 0) dX4_gift_26 (by decide) ?_
      refine wl_ldc hX tb_395 dX4_gift_27 ?_
      refine wl_cSi hX (c_X4_isWithin hi I J z 0 1000000) mv_X4_isWithin tb_206 rfl rfl (by omega) (Nat.le_of_ble_eq_true rfl) dX4_gift_29 ?_
      refine wl_if_ne hX (tgt := 38) dX4_gift_32 (by decide) (fun h3 => ?_) (fun h3 => ?_)
      · rw [hx_ifp ⟨kb, h3⟩, xp, xq] at hT
        refine wl_aload_n hX 0 rfl dX4_gift_38 ?_
        refine gf_X4_3 hX tb_192 dX4_gift_39 ?_
        refine gf_X0_2 hX tb_174 dX4_gift_42 ?_
        refine wl_iload_n hX 1 rfl dX4_gift_45 ?_
        refine wl_aald4 hX p kc_17 rfl (by omega) dX4_gift_46 ?_
        refine wl_iload_n hX 2 rfl dX4_gift_47 ?_
        refine wl_iald hX q (kd_100 (by omega)) rfl (by omega) dX4_gift_48 ?_
        refine wl_istore hX (lv' := [(4, .int (I (100 + p) q)), (0, .ref (ad 0)), (1, .int (nI p)), (2, .int (nI q)), (3, .int z)]) rfl (by decide) dX4_gift_49 ?_
        refine wl_aload_n hX 1 rfl dX4_gift_51 ?_
        refine gf_X4_3 hX tb_192 dX4_gift_52 ?_
        refine gf_X0_2 hX tb_174 dX4_gift_55 ?_
        refine wl_iload_n hX 2 rfl dX4_gift_58 ?_
        refine wl_aald4 hX p kc_17 rfl (by omega) dX4_gift_59 ?_
        refine wl_iload_n hX 3 rfl dX4_gift_60 ?_
        refine wl_iload_n hX 4 rfl dX4_gift_61 ?_
        refine wl_iast hX q (kd_100 (by omega)) rfl (by omega) dX4_gift_62 ?_
        refine wl_iload hX 0 rfl dX4_gift_63 ?_
        exact wl_ireturn hT dX4_gift_65 (hx_ri (by unfold wasR; rw [if_neg kb, if_neg h3, xp, xq]; rfl))
      · rw [hx_ifn (fun w => w.2 h3)] at hT
        refine wl_bipush hX (v := (-102)) dX4_gift_35 (by decide) ?_
        exact wl_ireturn hT dX4_gift_37 (hx_ri (by unfold wasR; rw [if_neg kb, if_pos h3]))
    · rw [hx_ifn (fun w => w.1 (Or.inr h2))] at hT
      refine wl_bipush hX (v := (-101)) dX4_gift_22 (by decide) ?_
      exact wl_ireturn hT dX4_gift_24 (hx_ri (by unfold wasR; rw [if_pos (Or.inr h2)]))

set_option maxHeartbeats 400000 in
theorem c_X4_here {l : Launch} {D : va_G} {ad : Nat → Nat} {cy : Nat → ClassId} (hi : hx_inj ad) (I : MI) (J : MJ) (x z : Int32) (hz : z = 0 ∨ z = 1) (P : Nat) (hP : I 1 0 = nI P) (hP12 : P ≤ 12) : Ct l D ad cy yX4_here cX4_here 4 (some .int) 1 [.ref (ad 0), .int x, .int z] I J (hx_is (some (.int (hereR P (I 7) x))) (hx_if (¬ inF x (nI P) = 0) (hx_u I 7 (xN x) z) I) J) := by
  refine ct_start hi (by decide +kernel) (Nat.le_of_ble_eq_true rfl) (fun X hX hT => ?_)
  show X 0 [(0, .ref (ad 0)), (1, .int x), (2, .int z)] [] I J
  refine wl_aload_n hX 0 rfl dX4_here_0 ?_
  refine gf_X4_0 hX tb_189 dX4_here_1 ?_
  refine wl_iload_n hX 1 rfl dX4_here_4 ?_
  refine wl_cVi hX (c_X1_hasPerson hi I J x) mv_X1_hasPerson tb_229 (by decide) rfl rfl rfl rfl (by omega) (Nat.le_of_ble_eq_true rfl) dX4_here_5 ?_
  refine wl_eqi (y := inF x (nI P)) (by rw [hP]) ?_
  refine wl_if_ne hX (tgt := 14) dX4_here_8 (by decide) (fun h1 => ?_) (fun h1 => ?_)
  · have kb : ¬ inF x (nI P) = 0 := h1
    obtain ⟨p, hp, rfl⟩ := inF_of (by omega) h1
    have xp : xN (nI p) = p := xN_nI (by omega)
    rw [hx_ifp kb, xp] at hT
    refine wl_aload_n hX 0 rfl dX4_here_14 ?_
    refine gf_X4_0 hX tb_189 dX4_here_15 ?_
    refine gf_X1_4 hX tb_63 dX4_here_18 ?_
    refine wl_iload_n hX 1 rfl dX4_here_21 ?_
    refine wl_zald hX p kc_7 rfl (by omega) dX4_here_22 ?_
    refine wl_istore_n hX (lv' := [(3, .int (I 7 p)), (0, .ref (ad 0)), (1, .int (nI p)), (2, .int z)]) rfl (by decide) dX4_here_23 ?_
    refine wl_aload_n hX 1 rfl dX4_here_24 ?_
    refine gf_X4_0 hX tb_189 dX4_here_25 ?_
    refine gf_X1_4 hX tb_63 dX4_here_28 ?_
    refine wl_iload_n hX 2 rfl dX4_here_31 ?_
    refine wl_iload_n hX 3 rfl dX4_here_32 ?_
    refine wl_zast hX p kc_7 rfl (by omega) hz dX4_here_33 ?_
    refine wl_iload_n hX 0 rfl dX4_here_34 ?_
    refine wl_if_eq hX (tgt := 42) dX4_here_35 (by decide) (fun h2 => ?_) (fun h2 => ?_)
    · refine wl_iconst hX (v := 0) dX4_here_42 (by decide) ?_
      exact wl_ireturn hT dX4_here_43 (hx_ri (by unfold hereR; rw [if_neg kb, xp]; unfold onF; rw [if_pos h2]))
    · refine wl_iconst hX (v := 1) dX4_here_38 (by decide) ?_
      refine wl_goto hX (tgt := 43) dX4_here_39 (by decide) ?_
      exact wl_ireturn hT dX4_here_43 (hx_ri (by unfold hereR; rw [if_neg kb, xp]; unfold onF; rw [if_neg h2]))
  · rw [hx_ifn (fun w => w h1)] at hT
    refine wl_bipush hX (v := (-101)) dX4_here_11 (by decide) ?_
    exact wl_ireturn hT dX4_here_13 (hx_ri (by unfold hereR; rw [if_pos h1]))

set_option maxHeartbeats 400000 in
theorem c_X4_voices {l : Launch} {D : va_G} {ad : Nat → Nat} {cy : Nat → ClassId} (hi : hx_inj ad) (I : MI) (J : MJ) (x y : Int32) (P : Nat) (hP : I 1 0 = nI P) (hP12 : P ≤ 12) (Q : Nat) (hQ : I 1 1 = nI Q) (hQ6 : Q ≤ 6) : Ct l D ad cy yX4_voices cX4_voices 3 (some .int) 1 [.ref (ad 0), .int x, .int y] I J (hx_is (some (.int (twoR P Q (-2000) (vC I) x y))) I J) := by
  refine ct_start hi (by decide +kernel) (Nat.le_of_ble_eq_true rfl) (fun X hX hT => ?_)
  show X 0 [(0, .ref (ad 0)), (1, .int x), (2, .int y)] [] I J
  refine wl_aload_n hX 0 rfl dX4_voices_0 ?_
  refine gf_X4_0 hX tb_189 dX4_voices_1 ?_
  refine wl_iload_n hX 1 rfl dX4_voices_4 ?_
  refine wl_cVi hX (c_X1_hasPerson hi I J x) mv_X1_hasPerson tb_229 (by decide) rfl rfl rfl rfl (by omega) (Nat.le_of_ble_eq_true rfl) dX4_voices_5 ?_
  refine wl_eqi (y := inF x (nI P)) (by rw [hP]) ?_
  refine wl_if_eq hX (tgt := 22) dX4_voices_8 (by decide) (fun h1 => ?_) (fun h1 => ?_)
  · refine wl_sipush hX (v := (-2000)) dX4_voices_22 (by decide) ?_
    exact wl_ireturn hT dX4_voices_25 (hx_ri (by unfold twoR; rw [if_pos (Or.inl h1)]))
  · refine wl_aload_n hX 0 rfl dX4_voices_11 ?_
    refine gf_X4_0 hX tb_189 dX4_voices_12 ?_
    refine wl_iload_n hX 2 rfl dX4_voices_15 ?_
    refine wl_cVi hX (c_X1_hasQuestion hi I J y) mv_X1_hasQuestion tb_233 (by decide) rfl rfl rfl rfl (by omega) (Nat.le_of_ble_eq_true rfl) dX4_voices_16 ?_
    refine wl_eqi (y := inF y (nI Q)) (by rw [hQ]) ?_
    refine wl_if_ne hX (tgt := 26) dX4_voices_19 (by decide) (fun h2 => ?_) (fun h2 => ?_)
    · have kb : ¬ (inF x (nI P) = 0 ∨ inF y (nI Q) = 0) := fun z => z.elim h1 h2
      obtain ⟨p, hp, rfl⟩ := inF_of (by omega) h1
      obtain ⟨q, hq, rfl⟩ := inF_of (by omega) h2
      have xp : xN (nI p) = p := xN_nI (by omega)
      have xq : xN (nI q) = q := xN_nI (by omega)
      refine wl_aload_n hX 0 rfl dX4_voices_26 ?_
      refine gf_X4_0 hX tb_189 dX4_voices_27 ?_
      refine gf_X1_5 hX tb_66 dX4_voices_30 ?_
      refine wl_iload_n hX 1 rfl dX4_voices_33 ?_
      refine wl_aald4 hX p kc_8 rfl (by omega) dX4_voices_34 ?_
      refine wl_iload_n hX 2 rfl dX4_voices_35 ?_
      refine wl_iald hX q (kd_33 (by omega)) rfl (by omega) dX4_voices_36 ?_
      exact wl_ireturn hT dX4_voices_37 (hx_ri (by unfold twoR; rw [if_neg kb, xp, xq]; rfl))
    · refine wl_sipush hX (v := (-2000)) dX4_voices_22 (by decide) ?_
      exact wl_ireturn hT dX4_voices_25 (hx_ri (by unfold twoR; rw [if_pos (Or.inr h2)]))

set_option maxHeartbeats 400000 in
theorem c_X4_cost {l : Launch} {D : va_G} {ad : Nat → Nat} {cy : Nat → ClassId} (hi : hx_inj ad) (I : MI) (J : MJ) (x : Int32) (P : Nat) (hP : I 1 0 = nI P) (hP12 : P ≤ 12) (Q : Nat) (hQ : I 1 1 = nI Q) (hQ6 : Q ≤ 6) : Ct l D ad cy yX4_cost cX4_cost 2 (some .int) 1 [.ref (ad 0), .int x] I J (hx_is (some (.int (oneR P (-101) (costF (vC I) Q) x))) I J) := by
  refine ct_start hi (by decide +kernel) (Nat.le_of_ble_eq_true rfl) (fun X hX hT => ?_)
  show X 0 [(0, .ref (ad 0)), (1, .int x)] [] I J
  refine wl_aload_n hX 0 rfl dX4_cost_0 ?_
  refine gf_X4_0 hX tb_189 dX4_cost_1 ?_
  refine wl_iload_n hX 1 rfl dX4_cost_4 ?_
  refine wl_cVi hX (c_X1_hasPerson hi I J x) mv_X1_hasPerson tb_229 (by decide) rfl rfl rfl rfl (by omega) (Nat.le_of_ble_eq_true rfl) dX4_cost_5 ?_
  refine wl_eqi (y := inF x (nI P)) (by rw [hP]) ?_
  refine wl_if_ne hX (tgt := 14) dX4_cost_8 (by decide) (fun h1 => ?_) (fun h1 => ?_)
  · have kb : ¬ inF x (nI P) = 0 := h1
    obtain ⟨p, hp, rfl⟩ := inF_of (by omega) h1
    have xp : xN (nI p) = p := xN_nI (by omega)
    refine wl_aload_n hX 0 rfl dX4_cost_14 ?_
    refine gf_X4_0 hX tb_189 dX4_cost_15 ?_
    refine wl_iload_n hX 1 rfl dX4_cost_18 ?_
    refine wl_cVi hX (c_X1_costOf hi I J p (by omega) Q hQ hQ6) mv_X1_costOf tb_237 (by decide) rfl rfl rfl rfl (by omega) (Nat.le_of_ble_eq_true rfl) dX4_cost_19 ?_
    exact wl_ireturn hT dX4_cost_22 (hx_ri (by unfold oneR; rw [if_neg kb, xp]))
  · refine wl_bipush hX (v := (-101)) dX4_cost_11 (by decide) ?_
    exact wl_ireturn hT dX4_cost_13 (hx_ri (by unfold oneR; rw [if_pos h1]))

set_option maxHeartbeats 400000 in
theorem c_X4_total {l : Launch} {D : va_G} {ad : Nat → Nat} {cy : Nat → ClassId} (hi : hx_inj ad) (I : MI) (J : MJ) (x : Int32) (P : Nat) (hP : I 1 0 = nI P) (hP12 : P ≤ 12) (Q : Nat) (hQ : I 1 1 = nI Q) (hQ6 : Q ≤ 6) : Ct l D ad cy yX4_total cX4_total 2 (some .int) 1 [.ref (ad 0), .int x] I J (hx_is (some (.int (oneR Q (-2000) (countF (I 7) (vC I) P) x))) I J) := by
  refine ct_start hi (by decide +kernel) (Nat.le_of_ble_eq_true rfl) (fun X hX hT => ?_)
  show X 0 [(0, .ref (ad 0)), (1, .int x)] [] I J
  refine wl_aload_n hX 0 rfl dX4_total_0 ?_
  refine gf_X4_0 hX tb_189 dX4_total_1 ?_
  refine wl_iload_n hX 1 rfl dX4_total_4 ?_
  refine wl_cVi hX (c_X1_hasQuestion hi I J x) mv_X1_hasQuestion tb_233 (by decide) rfl rfl rfl rfl (by omega) (Nat.le_of_ble_eq_true rfl) dX4_total_5 ?_
  refine wl_eqi (y := inF x (nI Q)) (by rw [hQ]) ?_
  refine wl_if_ne hX (tgt := 15) dX4_total_8 (by decide) (fun h1 => ?_) (fun h1 => ?_)
  · have kb : ¬ inF x (nI Q) = 0 := h1
    obtain ⟨p, hp, rfl⟩ := inF_of (by omega) h1
    have xp : xN (nI p) = p := xN_nI (by omega)
    refine wl_aload_n hX 0 rfl dX4_total_15 ?_
    refine gf_X4_0 hX tb_189 dX4_total_16 ?_
    refine wl_iload_n hX 1 rfl dX4_total_19 ?_
    refine wl_cVi hX (c_X1_countOf hi I J p (by omega) P hP hP12) mv_X1_countOf tb_261 (by decide) rfl rfl rfl rfl (by omega) (Nat.le_of_ble_eq_true rfl) dX4_total_20 ?_
    exact wl_ireturn hT dX4_total_23 (hx_ri (by unfold oneR; rw [if_neg kb, xp]))
  · refine wl_sipush hX (v := (-2000)) dX4_total_11 (by decide) ?_
    exact wl_ireturn hT dX4_total_14 (hx_ri (by unfold oneR; rw [if_pos h1]))

set_option maxHeartbeats 400000 in
theorem c_X4_gain {l : Launch} {D : va_G} {ad : Nat → Nat} {cy : Nat → ClassId} (hi : hx_inj ad) (I : MI) (J : MJ) (x : Int32) (P : Nat) (hP : I 1 0 = nI P) (hP12 : P ≤ 12) (Q : Nat) (hQ : I 1 1 = nI Q) (hQ6 : Q ≤ 6) : Ct l D ad cy yX4_gain cX4_gain 2 (some .int) 2 [.ref (ad 0), .int x] I J (hx_is (some (.int (oneR P (-2000000) (gainF (I 7) (vC I) (wC I) P Q) x))) I J) := by
  refine ct_start hi (by decide +kernel) (Nat.le_of_ble_eq_true rfl) (fun X hX hT => ?_)
  show X 0 [(0, .ref (ad 0)), (1, .int x)] [] I J
  refine wl_aload_n hX 0 rfl dX4_gain_0 ?_
  refine gf_X4_0 hX tb_189 dX4_gain_1 ?_
  refine wl_iload_n hX 1 rfl dX4_gain_4 ?_
  refine wl_cVi hX (c_X1_hasPerson hi I J x) mv_X1_hasPerson tb_229 (by decide) rfl rfl rfl rfl (by omega) (Nat.le_of_ble_eq_true rfl) dX4_gain_5 ?_
  refine wl_eqi (y := inF x (nI P)) (by rw [hP]) ?_
  refine wl_if_ne hX (tgt := 14) dX4_gain_8 (by decide) (fun h1 => ?_) (fun h1 => ?_)
  · have kb : ¬ inF x (nI P) = 0 := h1
    obtain ⟨p, hp, rfl⟩ := inF_of (by omega) h1
    have xp : xN (nI p) = p := xN_nI (by omega)
    refine wl_aload_n hX 0 rfl dX4_gain_14 ?_
    refine gf_X4_0 hX tb_189 dX4_gain_15 ?_
    refine wl_iload_n hX 1 rfl dX4_gain_18 ?_
    refine wl_cVi hX (c_X1_gainOf hi I J p (by omega) P hP hP12 Q hQ hQ6) mv_X1_gainOf tb_280 (by decide) rfl rfl rfl rfl (by omega) (Nat.le_of_ble_eq_true rfl) dX4_gain_19 ?_
    exact wl_ireturn hT dX4_gain_22 (hx_ri (by unfold oneR; rw [if_neg kb, xp]))
  · refine wl_ldc hX tb_279 dX4_gain_11 ?_
    exact wl_ireturn hT dX4_gain_13 (hx_ri (by unfold oneR; rw [if_pos h1]))

set_option maxHeartbeats 400000 in
theorem c_X4_swings {l : Launch} {D : va_G} {ad : Nat → Nat} {cy : Nat → ClassId} (hi : hx_inj ad) (I : MI) (J : MJ) (x : Int32) (P : Nat) (hP : I 1 0 = nI P) (hP12 : P ≤ 12) (Q : Nat) (hQ : I 1 1 = nI Q) (hQ6 : Q ≤ 6) : Ct l D ad cy yX4_swings cX4_swings 2 (some .int) 3 [.ref (ad 0), .int x] I J (hx_is (some (.int (oneR P (-101) (swF (I 1 2) (I 7) (vC I) P Q) x))) I J) := by
  refine ct_start hi (by decide +kernel) (Nat.le_of_ble_eq_true rfl) (fun X hX hT => ?_)
  show X 0 [(0, .ref (ad 0)), (1, .int x)] [] I J
  refine wl_aload_n hX 0 rfl dX4_swings_0 ?_
  refine gf_X4_0 hX tb_189 dX4_swings_1 ?_
  refine wl_iload_n hX 1 rfl dX4_swings_4 ?_
  refine wl_cVi hX (c_X1_hasPerson hi I J x) mv_X1_hasPerson tb_229 (by decide) rfl rfl rfl rfl (by omega) (Nat.le_of_ble_eq_true rfl) dX4_swings_5 ?_
  refine wl_eqi (y := inF x (nI P)) (by rw [hP]) ?_
  refine wl_if_ne hX (tgt := 14) dX4_swings_8 (by decide) (fun h1 => ?_) (fun h1 => ?_)
  · have kb : ¬ inF x (nI P) = 0 := h1
    obtain ⟨p, hp, rfl⟩ := inF_of (by omega) h1
    have xp : xN (nI p) = p := xN_nI (by omega)
    refine wl_aload_n hX 0 rfl dX4_swings_14 ?_
    refine gf_X4_0 hX tb_189 dX4_swings_15 ?_
    refine wl_iload_n hX 1 rfl dX4_swings_18 ?_
    refine wl_cVi hX (c_X1_swingsOf hi I J p (by omega) P hP hP12 Q hQ hQ6) mv_X1_swingsOf tb_292 (by decide) rfl rfl rfl rfl (by omega) (Nat.le_of_ble_eq_true rfl) dX4_swings_19 ?_
    exact wl_ireturn hT dX4_swings_22 (hx_ri (by unfold oneR; rw [if_neg kb, xp]))
  · refine wl_bipush hX (v := (-101)) dX4_swings_11 (by decide) ?_
    exact wl_ireturn hT dX4_swings_13 (hx_ri (by unfold oneR; rw [if_pos h1]))

set_option maxHeartbeats 400000 in
theorem c_X4_result {l : Launch} {D : va_G} {ad : Nat → Nat} {cy : Nat → ClassId} (hi : hx_inj ad) (I : MI) (J : MJ) (x : Int32) (P : Nat) (hP : I 1 0 = nI P) (hP12 : P ≤ 12) (Q : Nat) (hQ : I 1 1 = nI Q) (hQ6 : Q ≤ 6) : Ct l D ad cy yX4_result cX4_result 2 (some .int) 1 [.ref (ad 0), .int x] I J (hx_is (some (.int (oneR Q (-101) (fun q => resF (I 1 2) q (countF (I 7) (vC I) P q)) x))) I J) := by
  refine ct_start hi (by decide +kernel) (Nat.le_of_ble_eq_true rfl) (fun X hX hT => ?_)
  show X 0 [(0, .ref (ad 0)), (1, .int x)] [] I J
  refine wl_aload_n hX 0 rfl dX4_result_0 ?_
  refine gf_X4_0 hX tb_189 dX4_result_1 ?_
  refine wl_iload_n hX 1 rfl dX4_result_4 ?_
  refine wl_cVi hX (c_X1_hasQuestion hi I J x) mv_X1_hasQuestion tb_233 (by decide) rfl rfl rfl rfl (by omega) (Nat.le_of_ble_eq_true rfl) dX4_result_5 ?_
  refine wl_eqi (y := inF x (nI Q)) (by rw [hQ]) ?_
  refine wl_if_ne hX (tgt := 14) dX4_result_8 (by decide) (fun h1 => ?_) (fun h1 => ?_)
  · have kb : ¬ inF x (nI Q) = 0 := h1
    obtain ⟨p, hp, rfl⟩ := inF_of (by omega) h1
    have xp : xN (nI p) = p := xN_nI (by omega)
    refine wl_aload_n hX 0 rfl dX4_result_14 ?_
    refine gf_X4_0 hX tb_189 dX4_result_15 ?_
    refine wl_iload_n hX 1 rfl dX4_result_18 ?_
    refine wl_aload_n hX 0 rfl dX4_result_19 ?_
    refine gf_X4_0 hX tb_189 dX4_result_20 ?_
    refine wl_iload_n hX 1 rfl dX4_result_23 ?_
    refine wl_cVi hX (c_X1_countOf hi I J p (by omega) P hP hP12) mv_X1_countOf tb_261 (by decide) rfl rfl rfl rfl (by omega) (Nat.le_of_ble_eq_true rfl) dX4_result_24 ?_
    refine wl_cVi hX (c_X1_resultOf hi I J p (countF (I 7) (vC I) P p) (by omega)) mv_X1_resultOf tb_269 (by decide) rfl rfl rfl rfl (by omega) (Nat.le_of_ble_eq_true rfl) dX4_result_27 ?_
    exact wl_ireturn hT dX4_result_30 (hx_ri (by unfold oneR; rw [if_neg kb, xp]))
  · refine wl_bipush hX (v := (-101)) dX4_result_11 (by decide) ?_
    exact wl_ireturn hT dX4_result_13 (hx_ri (by unfold oneR; rw [if_pos h1]))

set_option maxHeartbeats 400000 in
theorem c_X4_best {l : Launch} {D : va_G} {ad : Nat → Nat} {cy : Nat → ClassId} (hi : hx_inj ad) (I : MI) (J : MJ) (x : Int32) (P : Nat) (hP : I 1 0 = nI P) (hP12 : P ≤ 12) (Q : Nat) (hQ : I 1 1 = nI Q) (hQ6 : Q ≤ 6) : Ct l D ad cy yX4_best cX4_best 2 (some .int) 10 [.ref (ad 0), .int x] I J (hx_is (some (.int (oneR P (-2000000) (fun p => ffM I P Q p 2 7) x))) (hx_if (¬ inF x (nI P) = 0) (ffM I P Q (xN x)) I) J) := by
  refine ct_start hi (by decide +kernel) (Nat.le_of_ble_eq_true rfl) (fun X hX hT => ?_)
  show X 0 [(0, .ref (ad 0)), (1, .int x)] [] I J
  refine wl_aload_n hX 0 rfl dX4_best_0 ?_
  refine gf_X4_0 hX tb_189 dX4_best_1 ?_
  refine wl_iload_n hX 1 rfl dX4_best_4 ?_
  refine wl_cVi hX (c_X1_hasPerson hi I J x) mv_X1_hasPerson tb_229 (by decide) rfl rfl rfl rfl (by omega) (Nat.le_of_ble_eq_true rfl) dX4_best_5 ?_
  refine wl_eqi (y := inF x (nI P)) (by rw [hP]) ?_
  refine wl_if_ne hX (tgt := 14) dX4_best_8 (by decide) (fun h1 => ?_) (fun h1 => ?_)
  · have kb : ¬ inF x (nI P) = 0 := h1
    obtain ⟨p, hp, rfl⟩ := inF_of (by omega) h1
    have xp : xN (nI p) = p := xN_nI (by omega)
    rw [hx_ifp kb, xp] at hT
    refine wl_aload_n hX 0 rfl dX4_best_14 ?_
    refine gf_X4_1 hX tb_190 dX4_best_15 ?_
    refine wl_iload_n hX 1 rfl dX4_best_18 ?_
    refine wl_cVv hX (c_X3_findFor hi I J P hP hP12 p hp Q hQ hQ6) mv_X3_findFor tb_305 (by decide) rfl rfl rfl rfl (by omega) (Nat.le_of_ble_eq_true rfl) dX4_best_19 ?_
    refine wl_aload_n hX 0 rfl dX4_best_22 ?_
    refine gf_X4_1 hX tb_190 dX4_best_23 ?_
    refine gf_X3_7 hX tb_104 dX4_best_26 ?_
    exact wl_ireturn hT dX4_best_29 (hx_ri (by unfold oneR; rw [if_neg kb, xp]))
  · rw [hx_ifn (fun w => w h1)] at hT
    refine wl_ldc hX tb_279 dX4_best_11 ?_
    exact wl_ireturn hT dX4_best_13 (hx_ri (by unfold oneR; rw [if_pos h1]))

set_option maxHeartbeats 400000 in
theorem c_X4_answer {l : Launch} {D : va_G} {ad : Nat → Nat} {cy : Nat → ClassId} (hi : hx_inj ad) (I : MI) (J : MJ) (x y : Int32) (P : Nat) (hP : I 1 0 = nI P) (hP12 : P ≤ 12) (Q : Nat) (hQ : I 1 1 = nI Q) (hQ6 : Q ≤ 6) : Ct l D ad cy yX4_answer cX4_answer 3 (some .int) 10 [.ref (ad 0), .int x, .int y] I J (hx_is (some (.int (twoR P Q (-2000) (fun p q => ffM I P Q p 15 q) x y))) (hx_if (¬ (inF x (nI P) = 0 ∨ inF y (nI Q) = 0)) (ffM I P Q (xN x)) I) J) := by
  refine ct_start hi (by decide +kernel) (Nat.le_of_ble_eq_true rfl) (fun X hX hT => ?_)
  show X 0 [(0, .ref (ad 0)), (1, .int x), (2, .int y)] [] I J
  refine wl_aload_n hX 0 rfl dX4_answer_0 ?_
  refine gf_X4_0 hX tb_189 dX4_answer_1 ?_
  refine wl_iload_n hX 1 rfl dX4_answer_4 ?_
  refine wl_cVi hX (c_X1_hasPerson hi I J x) mv_X1_hasPerson tb_229 (by decide) rfl rfl rfl rfl (by omega) (Nat.le_of_ble_eq_true rfl) dX4_answer_5 ?_
  refine wl_eqi (y := inF x (nI P)) (by rw [hP]) ?_
  refine wl_if_eq hX (tgt := 22) dX4_answer_8 (by decide) (fun h1 => ?_) (fun h1 => ?_)
  · rw [hx_ifn (fun w => w (Or.inl h1))] at hT
    refine wl_sipush hX (v := (-2000)) dX4_answer_22 (by decide) ?_
    exact wl_ireturn hT dX4_answer_25 (hx_ri (by unfold twoR; rw [if_pos (Or.inl h1)]))
  · refine wl_aload_n hX 0 rfl dX4_answer_11 ?_
    refine gf_X4_0 hX tb_189 dX4_answer_12 ?_
    refine wl_iload_n hX 2 rfl dX4_answer_15 ?_
    refine wl_cVi hX (c_X1_hasQuestion hi I J y) mv_X1_hasQuestion tb_233 (by decide) rfl rfl rfl rfl (by omega) (Nat.le_of_ble_eq_true rfl) dX4_answer_16 ?_
    refine wl_eqi (y := inF y (nI Q)) (by rw [hQ]) ?_
    refine wl_if_ne hX (tgt := 26) dX4_answer_19 (by decide) (fun h2 => ?_) (fun h2 => ?_)
    · have kb : ¬ (inF x (nI P) = 0 ∨ inF y (nI Q) = 0) := fun z => z.elim h1 h2
      obtain ⟨p, hp, rfl⟩ := inF_of (by omega) h1
      obtain ⟨q, hq, rfl⟩ := inF_of (by omega) h2
      have xp : xN (nI p) = p := xN_nI (by omega)
      have xq : xN (nI q) = q := xN_nI (by omega)
      rw [hx_ifp kb, xp] at hT
      refine wl_aload_n hX 0 rfl dX4_answer_26 ?_
      refine gf_X4_1 hX tb_190 dX4_answer_27 ?_
      refine wl_iload_n hX 1 rfl dX4_answer_30 ?_
      refine wl_cVv hX (c_X3_findFor hi I J P hP hP12 p hp Q hQ hQ6) mv_X3_findFor tb_305 (by decide) rfl rfl rfl rfl (by omega) (Nat.le_of_ble_eq_true rfl) dX4_answer_31 ?_
      refine wl_aload_n hX 0 rfl dX4_answer_34 ?_
      refine gf_X4_1 hX tb_190 dX4_answer_35 ?_
      refine gf_X3_6 hX tb_101 dX4_answer_38 ?_
      refine wl_iload_n hX 2 rfl dX4_answer_41 ?_
      refine wl_iald hX q kc_15 rfl (by omega) dX4_answer_42 ?_
      exact wl_ireturn hT dX4_answer_43 (hx_ri (by unfold twoR; rw [if_neg kb, xp, xq]))
    · rw [hx_ifn (fun w => w (Or.inr h2))] at hT
      refine wl_sipush hX (v := (-2000)) dX4_answer_22 (by decide) ?_
      exact wl_ireturn hT dX4_answer_25 (hx_ri (by unfold twoR; rw [if_pos (Or.inr h2)]))

set_option maxHeartbeats 400000 in
theorem c_X4_take {l : Launch} {D : va_G} {ad : Nat → Nat} {cy : Nat → ClassId} (hi : hx_inj ad) (I : MI) (J : MJ) (x : Int32) (P : Nat) (hP : I 1 0 = nI P) (hP12 : P ≤ 12) (Q : Nat) (hQ : I 1 1 = nI Q) (hQ6 : Q ≤ 6) : Ct l D ad cy yX4_take cX4_take 2 (some .int) 10 [.ref (ad 0), .int x] I J (hx_is (some (.int (takeR P (I 7) (fun p => costF (vC (hx_cp (ffM I P Q p) 15 (33 + p) Q)) Q p) x))) (hx_if (takeW P (I 7) x) (hx_cp (ffM I P Q (xN x)) 15 (33 + xN x) Q) I) J) := by
  refine ct_start hi (by decide +kernel) (Nat.le_of_ble_eq_true rfl) (fun X hX hT => ?_)
  show X 0 [(0, .ref (ad 0)), (1, .int x)] [] I J
  refine wl_aload_n hX 0 rfl dX4_take_0 ?_
  refine gf_X4_0 hX tb_189 dX4_take_1 ?_
  refine wl_iload_n hX 1 rfl dX4_take_4 ?_
  refine wl_cVi hX (c_X1_hasPerson hi I J x) mv_X1_hasPerson tb_229 (by decide) rfl rfl rfl rfl (by omega) (Nat.le_of_ble_eq_true rfl) dX4_take_5 ?_
  refine wl_eqi (y := inF x (nI P)) (by rw [hP]) ?_
  refine wl_if_ne hX (tgt := 14) dX4_take_8 (by decide) (fun h1 => ?_) (fun h1 => ?_)
  · have kb : ¬ inF x (nI P) = 0 := h1
    obtain ⟨p, hp, rfl⟩ := inF_of (by omega) h1
    have xp : xN (nI p) = p := xN_nI (by omega)
    refine wl_aload_n hX 0 rfl dX4_take_14 ?_
    refine gf_X4_0 hX tb_189 dX4_take_15 ?_
    refine gf_X1_4 hX tb_63 dX4_take_18 ?_
    refine wl_iload_n hX 1 rfl dX4_take_21 ?_
    refine wl_zald hX p kc_7 rfl (by omega) dX4_take_22 ?_
    refine wl_if_ne hX (tgt := 29) dX4_take_23 (by decide) (fun h2 => ?_) (fun h2 => ?_)
    · rw [hx_ifp ⟨kb, by rw [xp]; exact h2⟩, xp] at hT
      refine wl_aload_n hX 0 rfl dX4_take_29 ?_
      refine gf_X4_1 hX tb_190 dX4_take_30 ?_
      refine wl_iload_n hX 1 rfl dX4_take_33 ?_
      refine wl_cVv hX (c_X3_findFor hi I J P hP hP12 p hp Q hQ hQ6) mv_X3_findFor tb_305 (by decide) rfl rfl rfl rfl (by omega) (Nat.le_of_ble_eq_true rfl) dX4_take_34 ?_
      have f2 : ffM I P Q p 1 1 = nI Q := by rw [ffM_ne hQ6 (by unfold scrC; omega)]; exact hQ
      refine wl_aload_n hX 0 rfl dX4_take_37 ?_
      refine gf_X4_1 hX tb_190 dX4_take_38 ?_
      refine wl_iload_n hX 1 rfl dX4_take_41 ?_
      refine wl_cVv hX (c_X3_giveTo hi (ffM I P Q p) J p (by omega) Q f2 hQ6) mv_X3_giveTo tb_342 (by decide) rfl rfl rfl rfl (by omega) (Nat.le_of_ble_eq_true rfl) dX4_take_42 ?_
      refine wl_aload_n hX 0 rfl dX4_take_45 ?_
      refine gf_X4_0 hX tb_189 dX4_take_46 ?_
      refine wl_iload_n hX 1 rfl dX4_take_49 ?_
      refine wl_cVi hX (c_X1_costOf hi (hx_cp (ffM I P Q p) 15 (33 + p) Q) J p (by omega) Q (by rw [hx_cp_ne (by omega)]; exact f2) hQ6) mv_X1_costOf tb_237 (by decide) rfl rfl rfl rfl (by omega) (Nat.le_of_ble_eq_true rfl) dX4_take_50 ?_
      exact wl_ireturn hT dX4_take_53 (hx_ri (by unfold takeR; rw [if_neg kb, xp, if_neg h2]))
    · rw [hx_ifn (fun w => w.2 (by rw [xp]; exact h2))] at hT
      refine wl_bipush hX (v := (-103)) dX4_take_26 (by decide) ?_
      exact wl_ireturn hT dX4_take_28 (hx_ri (by unfold takeR; rw [if_neg kb, xp, if_pos h2]))
  · rw [hx_ifn (fun w => w.1 h1)] at hT
    refine wl_bipush hX (v := (-101)) dX4_take_11 (by decide) ?_
    exact wl_ireturn hT dX4_take_13 (hx_ri (by unfold takeR; rw [if_pos h1]))

set_option maxHeartbeats 400000 in
theorem c_X4_play {l : Launch} {D : va_G} {ad : Nat → Nat} {cy : Nat → ClassId} (hi : hx_inj ad) (I : MI) (J : MJ) (x : Int32) (P : Nat) (hP : I 1 0 = nI P) (hP12 : P ≤ 12) (Q : Nat) (hQ : I 1 1 = nI Q) (hQ6 : Q ≤ 6) : Ct l D ad cy yX4_play cX4_play 2 (some .int) 12 [.ref (ad 0), .int x] I J (hx_is (some (.int (playR (fun N => nI (plF P Q N 0 (pl0 I, ntF (pl0 I) P Q 0 J)).1) x))) (hx_if (¬ withinF x 1 30 = 0) (plF P Q (xN x) 0 (pl0 I, ntF (pl0 I) P Q 0 J)).2.1 I) (hx_if (¬ withinF x 1 30 = 0) (plF P Q (xN x) 0 (pl0 I, ntF (pl0 I) P Q 0 J)).2.2 J)) := by
  refine ct_start hi (by decide +kernel) (Nat.le_of_ble_eq_true rfl) (fun X hX hT => ?_)
  show X 0 [(0, .ref (ad 0)), (1, .int x)] [] I J
  refine wl_iload_n hX 1 rfl dX4_play_0 ?_
  refine wl_iconst hX (v := 1) dX4_play_1 (by decide) ?_
  refine wl_bipush hX (v := 30) dX4_play_2 (by decide) ?_
  refine wl_cSi hX (c_X4_isWithin hi I J x 1 30) mv_X4_isWithin tb_206 rfl rfl (by omega) (Nat.le_of_ble_eq_true rfl) dX4_play_4 ?_
  refine wl_if_ne hX (tgt := 13) dX4_play_7 (by decide) (fun h1 => ?_) (fun h1 => ?_)
  · have k1 := within_of h1
    rw [hx_ifp h1, hx_ifp h1] at hT
    obtain ⟨N, hN, rfl⟩ := nI_of2 (x := x) (M := 30) (n := 30) (by decide) (fun w => by have w1 := Int32.le_iff_toInt_le.mp k1.1; rw [Int32.lt_iff_toInt_lt] at w; have e0 : (0 : Int32).toInt = 0 := (by decide); have e1 : (1 : Int32).toInt = 1 := (by decide); omega) k1.2
    have xp : xN (nI N) = N := xN_nI (by omega)
    rw [xp] at hT
    refine wl_aload_n hX 0 rfl dX4_play_13 ?_
    refine gf_X4_2 hX tb_191 dX4_play_14 ?_
    refine wl_iload_n hX 1 rfl dX4_play_17 ?_
    refine wl_cVi hX (c_X2_playAtMost hi I J N hN P hP hP12 Q hQ hQ6) mv_X2_playAtMost tb_350 (by decide) rfl rfl rfl rfl (by omega) (Nat.le_of_ble_eq_true rfl) dX4_play_18 ?_
    exact wl_ireturn hT dX4_play_21 (hx_ri (by unfold playR; rw [if_neg h1, xp]))
  · rw [hx_ifn (fun w => w h1), hx_ifn (fun w => w h1)] at hT
    refine wl_bipush hX (v := (-102)) dX4_play_10 (by decide) ?_
    exact wl_ireturn hT dX4_play_12 (hx_ri (by unfold playR; rw [if_pos h1]))

set_option maxHeartbeats 400000 in
theorem c_X4_ended {l : Launch} {D : va_G} {ad : Nat → Nat} {cy : Nat → ClassId} (hi : hx_inj ad) (I : MI) (J : MJ)  : Ct l D ad cy yX4_ended cX4_ended 1 (some .int) 0 [.ref (ad 0)] I J (hx_is (some (.int (I 3 5))) I J) := by
  refine ct_start hi (by decide +kernel) (Nat.le_of_ble_eq_true rfl) (fun X hX hT => ?_)
  show X 0 [(0, .ref (ad 0))] [] I J
  refine wl_aload_n hX 0 rfl dX4_ended_0 ?_
  refine gf_X4_2 hX tb_191 dX4_ended_1 ?_
  refine gf_X2_5 hX tb_144 dX4_ended_4 ?_
  exact wl_ireturn hT dX4_ended_7 (hx_ri rfl)

set_option maxHeartbeats 400000 in
theorem c_X4_ring {l : Launch} {D : va_G} {ad : Nat → Nat} {cy : Nat → ClassId} (hi : hx_inj ad) (I : MI) (J : MJ)  : Ct l D ad cy yX4_ring cX4_ring 1 (some .int) 0 [.ref (ad 0)] I J (hx_is (some (.int (I 3 6))) I J) := by
  refine ct_start hi (by decide +kernel) (Nat.le_of_ble_eq_true rfl) (fun X hX hT => ?_)
  show X 0 [(0, .ref (ad 0))] [] I J
  refine wl_aload_n hX 0 rfl dX4_ring_0 ?_
  refine gf_X4_2 hX tb_191 dX4_ring_1 ?_
  refine gf_X2_6 hX tb_146 dX4_ring_4 ?_
  exact wl_ireturn hT dX4_ring_7 (hx_ri rfl)

set_option maxHeartbeats 400000 in
theorem c_X4_bond {l : Launch} {D : va_G} {ad : Nat → Nat} {cy : Nat → ClassId} (hi : hx_inj ad) (I : MI) (J : MJ) (x y z : Int32) (P : Nat) (hP : I 1 0 = nI P) (hP12 : P ≤ 12) : Ct l D ad cy yX4_bond cX4_bond 5 (some .int) 1 [.ref (ad 0), .int x, .int y, .int z] I J (hx_is (some (.int (bondR P (bC I) x y z))) (hx_if (bondW P x y z) (hx_u (hx_u I (112 + xN x) (xN y) z) (112 + xN y) (xN x) z) I) J) := by
  refine ct_start hi (by decide +kernel) (Nat.le_of_ble_eq_true rfl) (fun X hX hT => ?_)
  show X 0 [(0, .ref (ad 0)), (1, .int x), (2, .int y), (3, .int z)] [] I J
  refine wl_aload_n hX 0 rfl dX4_bond_0 ?_
  refine gf_X4_0 hX tb_189 dX4_bond_1 ?_
  refine wl_iload_n hX 1 rfl dX4_bond_4 ?_
  refine wl_cVi hX (c_X1_hasPerson hi I J x) mv_X1_hasPerson tb_229 (by decide) rfl rfl rfl rfl (by omega) (Nat.le_of_ble_eq_true rfl) dX4_bond_5 ?_
  refine wl_eqi (y := inF x (nI P)) (by rw [hP]) ?_
  refine wl_if_eq hX (tgt := 22) dX4_bond_8 (by decide) (fun h1 => ?_) (fun h1 => ?_)
  · rw [hx_ifn (fun w => w.1 (Or.inl h1))] at hT
    refine wl_bipush hX (v := (-101)) dX4_bond_22 (by decide) ?_
    exact wl_ireturn hT dX4_bond_24 (hx_ri (by unfold bondR; rw [if_pos (Or.inl h1)]))
  · refine wl_aload_n hX 0 rfl dX4_bond_11 ?_
    refine gf_X4_0 hX tb_189 dX4_bond_12 ?_
    refine wl_iload_n hX 2 rfl dX4_bond_15 ?_
    refine wl_cVi hX (c_X1_hasPerson hi I J y) mv_X1_hasPerson tb_229 (by decide) rfl rfl rfl rfl (by omega) (Nat.le_of_ble_eq_true rfl) dX4_bond_16 ?_
    refine wl_eqi (y := inF y (nI P)) (by rw [hP]) ?_
    refine wl_if_ne hX (tgt := 25) dX4_bond_19 (by decide) (fun h2 => ?_) (fun h2 => ?_)
    · have kb : ¬ (inF x (nI P) = 0 ∨ inF y (nI P) = 0) := fun z => z.elim h1 h2
      obtain ⟨p, hp, rfl⟩ := inF_of (by omega) h1
      obtain ⟨q, hq, rfl⟩ := inF_of (by omega) h2
      have xp : xN (nI p) = p := xN_nI (by omega)
      have xq : xN (nI q) = q := xN_nI (by omega)
      refine wl_iload_n hX 1 rfl dX4_bond_25 ?_
      refine wl_iload_n hX 2 rfl dX4_bond_26 ?_
      refine wl_icmp_eq hX (tgt := 41) dX4_bond_27 (by decide) (fun h3 => ?_) (fun h3 => ?_)
      · rw [hx_ifn (fun w => w.2 (Or.inl h3))] at hT
        refine wl_bipush hX (v := (-102)) dX4_bond_41 (by decide) ?_
        exact wl_ireturn hT dX4_bond_43 (hx_ri (by unfold bondR; rw [if_neg kb, if_pos (Or.inl h3)]))
      · refine wl_iload_n hX 3 rfl dX4_bond_30 ?_
        refine wl_iconst hX (v := 0) dX4_bond_31 (by decide) ?_
        refine wl_sipush hX (v := 1000) dX4_bond_32 (by decide) ?_
        refine wl_cSi hX (c_X4_isWithin hi I J z 0 1000) mv_X4_isWithin tb_206 rfl rfl (by omega) (Nat.le_of_ble_eq_true rfl) dX4_bond_35 ?_
        refine wl_if_ne hX (tgt := 44) dX4_bond_38 (by decide) (fun h4 => ?_) (fun h4 => ?_)
        · rw [hx_ifp ⟨kb, fun w => w.elim h3 h4⟩, xp, xq] at hT
          refine wl_aload_n hX 0 rfl dX4_bond_44 ?_
          refine gf_X4_3 hX tb_192 dX4_bond_45 ?_
          refine gf_X0_3 hX tb_176 dX4_bond_48 ?_
          refine wl_iload_n hX 1 rfl dX4_bond_51 ?_
          refine wl_aald4 hX p kc_18 rfl (by omega) dX4_bond_52 ?_
          refine wl_iload_n hX 2 rfl dX4_bond_53 ?_
          refine wl_iald hX q (kd_112 (by omega)) rfl (by omega) dX4_bond_54 ?_
          refine wl_istore hX (lv' := [(4, .int (I (112 + p) q)), (0, .ref (ad 0)), (1, .int (nI p)), (2, .int (nI q)), (3, .int z)]) rfl (by decide) dX4_bond_55 ?_
          refine wl_aload_n hX 1 rfl dX4_bond_57 ?_
          refine gf_X4_3 hX tb_192 dX4_bond_58 ?_
          refine gf_X0_3 hX tb_176 dX4_bond_61 ?_
          refine wl_iload_n hX 2 rfl dX4_bond_64 ?_
          refine wl_aald4 hX p kc_18 rfl (by omega) dX4_bond_65 ?_
          refine wl_iload_n hX 3 rfl dX4_bond_66 ?_
          refine wl_iload_n hX 4 rfl dX4_bond_67 ?_
          refine wl_iast hX q (kd_112 (by omega)) rfl (by omega) dX4_bond_68 ?_
          refine wl_aload_n hX 1 rfl dX4_bond_69 ?_
          refine gf_X4_3 hX tb_192 dX4_bond_70 ?_
          refine gf_X0_3 hX tb_176 dX4_bond_73 ?_
          refine wl_iload_n hX 3 rfl dX4_bond_76 ?_
          refine wl_aald4 hX q kc_18 rfl (by omega) dX4_bond_77 ?_
          refine wl_iload_n hX 2 rfl dX4_bond_78 ?_
          refine wl_iload_n hX 4 rfl dX4_bond_79 ?_
          refine wl_iast hX p (kd_112 (by omega)) rfl (by omega) dX4_bond_80 ?_
          refine wl_iload hX 0 rfl dX4_bond_81 ?_
          exact wl_ireturn hT dX4_bond_83 (hx_ri (by unfold bondR; rw [if_neg kb, if_neg (fun w => w.elim h3 h4), xp, xq]; rfl))
        · rw [hx_ifn (fun w => w.2 (Or.inr h4))] at hT
          refine wl_bipush hX (v := (-102)) dX4_bond_41 (by decide) ?_
          exact wl_ireturn hT dX4_bond_43 (hx_ri (by unfold bondR; rw [if_neg kb, if_pos (Or.inr h4)]))
    · rw [hx_ifn (fun w => w.1 (Or.inr h2))] at hT
      refine wl_bipush hX (v := (-101)) dX4_bond_22 (by decide) ?_
      exact wl_ireturn hT dX4_bond_24 (hx_ri (by unfold bondR; rw [if_pos (Or.inr h2)]))

set_option maxHeartbeats 400000 in
theorem c_X4_matched {l : Launch} {D : va_G} {ad : Nat → Nat} {cy : Nat → ClassId} (hi : hx_inj ad) (I : MI) (J : MJ) (x z : Int32) (P : Nat) (hP : I 1 0 = nI P) (hP12 : P ≤ 12) (R : Nat) (hR : I 4 1 = nI R) (hR6 : R ≤ 6) : Ct l D ad cy yX4_matched cX4_matched 3 (some .long) 3 [.ref (ad 0), .int x, .int z] I J (hx_is (some (.long (matchedR R (mLowF (gC I) (bC I) P) (mHighF (gC I) (bC I) P) x z))) I J) := by
  refine ct_start hi (by decide +kernel) (Nat.le_of_ble_eq_true rfl) (fun X hX hT => ?_)
  show X 0 [(0, .ref (ad 0)), (1, .int x), (2, .int z)] [] I J
  refine wl_aload_n hX 0 rfl dX4_matched_0 ?_
  refine gf_X4_3 hX tb_192 dX4_matched_1 ?_
  refine wl_iload_n hX 1 rfl dX4_matched_4 ?_
  refine wl_cVi hX (c_X0_hasProject hi I J x) mv_X0_hasProject tb_391 (by decide) rfl rfl rfl rfl (by omega) (Nat.le_of_ble_eq_true rfl) dX4_matched_5 ?_
  refine wl_eqi (y := inF x (nI R)) (by rw [hR]) ?_
  refine wl_if_ne hX (tgt := 15) dX4_matched_8 (by decide) (fun h1 => ?_) (fun h1 => ?_)
  · have kb : ¬ inF x (nI R) = 0 := h1
    obtain ⟨p, hp, rfl⟩ := inF_of (by omega) h1
    have xp : xN (nI p) = p := xN_nI (by omega)
    refine wl_iload_n hX 2 rfl dX4_matched_15 ?_
    refine wl_iconst hX (v := 0) dX4_matched_16 (by decide) ?_
    refine wl_iconst hX (v := 1) dX4_matched_17 (by decide) ?_
    refine wl_cSi hX (c_X4_isWithin hi I J z 0 1) mv_X4_isWithin tb_206 rfl rfl (by omega) (Nat.le_of_ble_eq_true rfl) dX4_matched_18 ?_
    refine wl_if_ne hX (tgt := 28) dX4_matched_21 (by decide) (fun h3 => ?_) (fun h3 => ?_)
    · refine wl_iload_n hX 2 rfl dX4_matched_28 ?_
      refine wl_if_ne hX (tgt := 43) dX4_matched_29 (by decide) (fun h4 => ?_) (fun h4 => ?_)
      · refine wl_aload_n hX 0 rfl dX4_matched_43 ?_
        refine gf_X4_3 hX tb_192 dX4_matched_44 ?_
        refine wl_iload_n hX 1 rfl dX4_matched_47 ?_
        refine wl_cVl hX (c_X0_matchedHigh hi I J p (by omega) P hP hP12) mv_X0_matchedHigh tb_421 (by decide) rfl rfl rfl rfl (by omega) (Nat.le_of_ble_eq_true rfl) dX4_matched_48 ?_
        exact wl_lreturn hT dX4_matched_51 (hx_rl (by unfold matchedR; rw [if_neg kb, if_neg h3, xp, if_neg h4]))
      · refine wl_aload_n hX 0 rfl dX4_matched_32 ?_
        refine gf_X4_3 hX tb_192 dX4_matched_33 ?_
        refine wl_iload_n hX 1 rfl dX4_matched_36 ?_
        refine wl_cVl hX (c_X0_matchedLow hi I J p (by omega) P hP hP12) mv_X0_matchedLow tb_406 (by decide) rfl rfl rfl rfl (by omega) (Nat.le_of_ble_eq_true rfl) dX4_matched_37 ?_
        refine wl_goto hX (tgt := 51) dX4_matched_40 (by decide) ?_
        exact wl_lreturn hT dX4_matched_51 (hx_rl (by unfold matchedR; rw [if_neg kb, if_neg h3, xp, if_pos h4]))
    · refine wl_ldc2 hX tb_405 dX4_matched_24 ?_
      exact wl_lreturn hT dX4_matched_27 (hx_rl (by unfold matchedR; rw [if_neg kb, if_pos h3]))
  · refine wl_ldc2 hX tb_404 dX4_matched_11 ?_
    exact wl_lreturn hT dX4_matched_14 (hx_rl (by unfold matchedR; rw [if_pos h1]))

set_option maxHeartbeats 400000 in
theorem c_X4_share {l : Launch} {D : va_G} {ad : Nat → Nat} {cy : Nat → ClassId} (hi : hx_inj ad) (I : MI) (J : MJ) (x : Int32) (pot : Int64) (P : Nat) (hP : I 1 0 = nI P) (hP12 : P ≤ 12) (R : Nat) (hR : I 4 1 = nI R) (hR6 : R ≤ 6) : Ct l D ad cy yX4_share cX4_share 4 (some .long) 3 [.ref (ad 0), .int x, .long pot] I J (hx_is (some (.long (shareR R (fun j z => shareF (mLowF (gC I) (bC I) P) R j z) x pot))) I (hx_if (shareW R x pot) (lwJ J 19 (mLowF (gC I) (bC I) P) R) J)) := by
  refine ct_start hi (by decide +kernel) (Nat.le_of_ble_eq_true rfl) (fun X hX hT => ?_)
  show X 0 [(0, .ref (ad 0)), (1, .int x), (2, .long pot)] [] I J
  refine wl_aload_n hX 0 rfl dX4_share_0 ?_
  refine gf_X4_3 hX tb_192 dX4_share_1 ?_
  refine wl_iload_n hX 1 rfl dX4_share_4 ?_
  refine wl_cVi hX (c_X0_hasProject hi I J x) mv_X0_hasProject tb_391 (by decide) rfl rfl rfl rfl (by omega) (Nat.le_of_ble_eq_true rfl) dX4_share_5 ?_
  refine wl_eqi (y := inF x (nI R)) (by rw [hR]) ?_
  refine wl_if_ne hX (tgt := 15) dX4_share_8 (by decide) (fun h1 => ?_) (fun h1 => ?_)
  · have kb : ¬ inF x (nI R) = 0 := h1
    obtain ⟨p, hp, rfl⟩ := inF_of (by omega) h1
    have xp : xN (nI p) = p := xN_nI (by omega)
    refine wl_lload_n hX 2 rfl dX4_share_15 ?_
    refine wl_lconst hX (v := 0) dX4_share_16 (by decide) ?_
    refine wl_lif_lt hX (tgt := 29) dX4_share_17 dX4_share_18 (by decide) (fun h3 => ?_) (fun h3 => ?_)
    · rw [hx_ifn (fun w => w.2 (Or.inl h3))] at hT
      refine wl_ldc2 hX tb_405 dX4_share_29 ?_
      exact wl_lreturn hT dX4_share_32 (hx_rl (by unfold shareR; rw [if_neg kb, if_pos (Or.inl h3)]))
    · refine wl_lload_n hX 2 rfl dX4_share_21 ?_
      refine wl_ldc2 hX tb_432 dX4_share_22 ?_
      refine wl_lif_le hX (tgt := 33) dX4_share_25 dX4_share_26 (by decide) (fun h4 => ?_) (fun h4 => ?_)
      · have k4 : ¬ (pot < 0 ∨ 1000000000 < pot) := fun w => w.elim h3 (fun y => by rw [Int64.lt_iff_toInt_lt] at y; rw [Int64.le_iff_toInt_le] at h4; omega)
        rw [hx_ifp ⟨kb, k4⟩] at hT
        refine wl_aload_n hX 0 rfl dX4_share_33 ?_
        refine gf_X4_3 hX tb_192 dX4_share_34 ?_
        refine wl_iload_n hX 1 rfl dX4_share_37 ?_
        refine wl_lload_n hX 2 rfl dX4_share_38 ?_
        refine wl_cVl hX (c_X0_shareOf hi I J p pot P hP hP12 R hR hR6 hp) mv_X0_shareOf tb_433 (by decide) rfl rfl rfl rfl (by omega) (Nat.le_of_ble_eq_true rfl) dX4_share_39 ?_
        exact wl_lreturn hT dX4_share_42 (hx_rl (by unfold shareR; rw [if_neg kb, if_neg k4, xp]))
      · rw [hx_ifn (fun w => w.2 (Or.inr (by rw [Int64.lt_iff_toInt_lt]; rw [Int64.le_iff_toInt_le] at h4; omega)))] at hT
        refine wl_ldc2 hX tb_405 dX4_share_29 ?_
        exact wl_lreturn hT dX4_share_32 (hx_rl (by unfold shareR; rw [if_neg kb, if_pos (Or.inr (by rw [Int64.lt_iff_toInt_lt]; rw [Int64.le_iff_toInt_le] at h4; omega))]))
  · rw [hx_ifn (fun w => w.1 h1)] at hT
    refine wl_ldc2 hX tb_404 dX4_share_11 ?_
    exact wl_lreturn hT dX4_share_14 (hx_rl (by unfold shareR; rw [if_pos h1]))

set_option maxHeartbeats 400000 in
theorem c_X4_damped {l : Launch} {D : va_G} {ad : Nat → Nat} {cy : Nat → ClassId} (hi : hx_inj ad) (I : MI) (J : MJ) (x : Int32) (P : Nat) (hP : I 1 0 = nI P) (hP12 : P ≤ 12) (R : Nat) (hR : I 4 1 = nI R) (hR6 : R ≤ 6) : Ct l D ad cy yX4_damped cX4_damped 2 (some .long) 2 [.ref (ad 0), .int x] I J (hx_is (some (.long (dampedR R (fun j => mWholeF (gC I) P j - mLowF (gC I) (bC I) P j) x))) I J) := by
  refine ct_start hi (by decide +kernel) (Nat.le_of_ble_eq_true rfl) (fun X hX hT => ?_)
  show X 0 [(0, .ref (ad 0)), (1, .int x)] [] I J
  refine wl_aload_n hX 0 rfl dX4_damped_0 ?_
  refine gf_X4_3 hX tb_192 dX4_damped_1 ?_
  refine wl_iload_n hX 1 rfl dX4_damped_4 ?_
  refine wl_cVi hX (c_X0_hasProject hi I J x) mv_X0_hasProject tb_391 (by decide) rfl rfl rfl rfl (by omega) (Nat.le_of_ble_eq_true rfl) dX4_damped_5 ?_
  refine wl_eqi (y := inF x (nI R)) (by rw [hR]) ?_
  refine wl_if_ne hX (tgt := 15) dX4_damped_8 (by decide) (fun h1 => ?_) (fun h1 => ?_)
  · have kb : ¬ inF x (nI R) = 0 := h1
    obtain ⟨p, hp, rfl⟩ := inF_of (by omega) h1
    have xp : xN (nI p) = p := xN_nI (by omega)
    refine wl_aload_n hX 0 rfl dX4_damped_15 ?_
    refine gf_X4_3 hX tb_192 dX4_damped_16 ?_
    refine wl_iload_n hX 1 rfl dX4_damped_19 ?_
    refine wl_cVl hX (c_X0_matchedUndamped hi I J p (by omega) P hP hP12) mv_X0_matchedUndamped tb_442 (by decide) rfl rfl rfl rfl (by omega) (Nat.le_of_ble_eq_true rfl) dX4_damped_20 ?_
    refine wl_aload_n hX 0 rfl dX4_damped_23 ?_
    refine gf_X4_3 hX tb_192 dX4_damped_24 ?_
    refine wl_iload_n hX 1 rfl dX4_damped_27 ?_
    refine wl_cVl hX (c_X0_matchedLow hi I J p (by omega) P hP hP12) mv_X0_matchedLow tb_406 (by decide) rfl rfl rfl rfl (by omega) (Nat.le_of_ble_eq_true rfl) dX4_damped_28 ?_
    refine wl_lsub hX dX4_damped_31 ?_
    exact wl_lreturn hT dX4_damped_32 (hx_rl (by unfold dampedR; rw [if_neg kb, xp]))
  · refine wl_ldc2 hX tb_404 dX4_damped_11 ?_
    exact wl_lreturn hT dX4_damped_14 (hx_rl (by unfold dampedR; rw [if_pos h1]))

set_option maxHeartbeats 400000 in
theorem c_X4_likeness {l : Launch} {D : va_G} {ad : Nat → Nat} {cy : Nat → ClassId} (hi : hx_inj ad) (I : MI) (J : MJ) (x y : Int32) (P : Nat) (hP : I 1 0 = nI P) (hP12 : P ≤ 12) (Q : Nat) (hQ : I 1 1 = nI Q) (hQ6 : Q ≤ 6) : Ct l D ad cy yX4_likeness cX4_likeness 3 (some .int) 2 [.ref (ad 0), .int x, .int y] I J (hx_is (some (.int (twoR P P (-2001) (likeF (vC I) Q) x y))) I J) := by
  refine ct_start hi (by decide +kernel) (Nat.le_of_ble_eq_true rfl) (fun X hX hT => ?_)
  show X 0 [(0, .ref (ad 0)), (1, .int x), (2, .int y)] [] I J
  refine wl_aload_n hX 0 rfl dX4_likeness_0 ?_
  refine gf_X4_0 hX tb_189 dX4_likeness_1 ?_
  refine wl_iload_n hX 1 rfl dX4_likeness_4 ?_
  refine wl_cVi hX (c_X1_hasPerson hi I J x) mv_X1_hasPerson tb_229 (by decide) rfl rfl rfl rfl (by omega) (Nat.le_of_ble_eq_true rfl) dX4_likeness_5 ?_
  refine wl_eqi (y := inF x (nI P)) (by rw [hP]) ?_
  refine wl_if_eq hX (tgt := 22) dX4_likeness_8 (by decide) (fun h1 => ?_) (fun h1 => ?_)
  · refine wl_sipush hX (v := (-2001)) dX4_likeness_22 (by decide) ?_
    exact wl_ireturn hT dX4_likeness_25 (hx_ri (by unfold twoR; rw [if_pos (Or.inl h1)]))
  · refine wl_aload_n hX 0 rfl dX4_likeness_11 ?_
    refine gf_X4_0 hX tb_189 dX4_likeness_12 ?_
    refine wl_iload_n hX 2 rfl dX4_likeness_15 ?_
    refine wl_cVi hX (c_X1_hasPerson hi I J y) mv_X1_hasPerson tb_229 (by decide) rfl rfl rfl rfl (by omega) (Nat.le_of_ble_eq_true rfl) dX4_likeness_16 ?_
    refine wl_eqi (y := inF y (nI P)) (by rw [hP]) ?_
    refine wl_if_ne hX (tgt := 26) dX4_likeness_19 (by decide) (fun h2 => ?_) (fun h2 => ?_)
    · have kb : ¬ (inF x (nI P) = 0 ∨ inF y (nI P) = 0) := fun z => z.elim h1 h2
      obtain ⟨p, hp, rfl⟩ := inF_of (by omega) h1
      obtain ⟨q, hq, rfl⟩ := inF_of (by omega) h2
      have xp : xN (nI p) = p := xN_nI (by omega)
      have xq : xN (nI q) = q := xN_nI (by omega)
      refine wl_aload_n hX 0 rfl dX4_likeness_26 ?_
      refine gf_X4_0 hX tb_189 dX4_likeness_27 ?_
      refine wl_iload_n hX 1 rfl dX4_likeness_30 ?_
      refine wl_iload_n hX 2 rfl dX4_likeness_31 ?_
      refine wl_cVi hX (c_X1_likenessOf hi I J p q (by omega) (by omega) Q hQ hQ6) mv_X1_likenessOf tb_451 (by decide) rfl rfl rfl rfl (by omega) (Nat.le_of_ble_eq_true rfl) dX4_likeness_32 ?_
      exact wl_ireturn hT dX4_likeness_35 (hx_ri (by unfold twoR; rw [if_neg kb, xp, xq]))
    · refine wl_sipush hX (v := (-2001)) dX4_likeness_22 (by decide) ?_
      exact wl_ireturn hT dX4_likeness_25 (hx_ri (by unfold twoR; rw [if_pos (Or.inr h2)]))

set_option maxHeartbeats 400000 in
theorem c_X4_group {l : Launch} {D : va_G} {ad : Nat → Nat} {cy : Nat → ClassId} (hi : hx_inj ad) (I : MI) (J : MJ) (x t : Int32) (P : Nat) (hP : I 1 0 = nI P) (hP12 : P ≤ 12) (Q : Nat) (hQ : I 1 1 = nI Q) (hQ6 : Q ≤ 6) : Ct l D ad cy yX4_group cX4_group 3 (some .int) 4 [.ref (ad 0), .int x, .int t] I J (hx_is (some (.int (groupR P (fun p => grF (alF (vC I) Q P t) P P (1 <<< (nI p &&& 31)) 0) x t))) I J) := by
  refine ct_start hi (by decide +kernel) (Nat.le_of_ble_eq_true rfl) (fun X hX hT => ?_)
  show X 0 [(0, .ref (ad 0)), (1, .int x), (2, .int t)] [] I J
  refine wl_aload_n hX 0 rfl dX4_group_0 ?_
  refine gf_X4_0 hX tb_189 dX4_group_1 ?_
  refine wl_iload_n hX 1 rfl dX4_group_4 ?_
  refine wl_cVi hX (c_X1_hasPerson hi I J x) mv_X1_hasPerson tb_229 (by decide) rfl rfl rfl rfl (by omega) (Nat.le_of_ble_eq_true rfl) dX4_group_5 ?_
  refine wl_eqi (y := inF x (nI P)) (by rw [hP]) ?_
  refine wl_if_ne hX (tgt := 14) dX4_group_8 (by decide) (fun h1 => ?_) (fun h1 => ?_)
  · have kb : ¬ inF x (nI P) = 0 := h1
    obtain ⟨p, hp, rfl⟩ := inF_of (by omega) h1
    have xp : xN (nI p) = p := xN_nI (by omega)
    refine wl_iload_n hX 2 rfl dX4_group_14 ?_
    refine wl_iconst hX (v := 1) dX4_group_15 (by decide) ?_
    refine wl_sipush hX (v := 1000) dX4_group_16 (by decide) ?_
    refine wl_cSi hX (c_X4_isWithin hi I J t 1 1000) mv_X4_isWithin tb_206 rfl rfl (by omega) (Nat.le_of_ble_eq_true rfl) dX4_group_19 ?_
    refine wl_if_ne hX (tgt := 28) dX4_group_22 (by decide) (fun h3 => ?_) (fun h3 => ?_)
    · refine wl_aload_n hX 0 rfl dX4_group_28 ?_
      refine gf_X4_0 hX tb_189 dX4_group_29 ?_
      refine wl_iload_n hX 1 rfl dX4_group_32 ?_
      refine wl_iload_n hX 2 rfl dX4_group_33 ?_
      refine wl_cVi hX (c_X1_groupOf hi I J p t (by omega) P hP hP12 Q hQ hQ6) mv_X1_groupOf tb_461 (by decide) rfl rfl rfl rfl (by omega) (Nat.le_of_ble_eq_true rfl) dX4_group_34 ?_
      exact wl_ireturn hT dX4_group_37 (hx_ri (by unfold groupR; rw [if_neg kb, if_neg h3, xp]))
    · refine wl_bipush hX (v := (-102)) dX4_group_25 (by decide) ?_
      exact wl_ireturn hT dX4_group_27 (hx_ri (by unfold groupR; rw [if_neg kb, if_pos h3]))
  · refine wl_bipush hX (v := (-101)) dX4_group_11 (by decide) ?_
    exact wl_ireturn hT dX4_group_13 (hx_ri (by unfold groupR; rw [if_pos h1]))

set_option maxHeartbeats 400000 in
theorem c_X4_count {l : Launch} {D : va_G} {ad : Nat → Nat} {cy : Nat → ClassId} (hi : hx_inj ad) (I : MI) (J : MJ) (x : Int32) (P : Nat) (hP : I 1 0 = nI P) (hP12 : P ≤ 12) (Q : Nat) (hQ : I 1 1 = nI Q) (hQ6 : Q ≤ 6) (R : Nat) (hR : I 4 1 = nI R) (hR6 : R ≤ 6) : Ct l D ad cy yX4_count cX4_count 2 (some .int) 1 [.ref (ad 0), .int x] I J (hx_is (some (.int (countR (nI P) (nI Q) (nI R) (presF (I 7) P) (I 3 3) (I 3 4) x))) I J) := by
  refine ct_start hi (by decide +kernel) (Nat.le_of_ble_eq_true rfl) (fun X hX hT => ?_)
  show X 0 [(0, .ref (ad 0)), (1, .int x)] [] I J
  refine wl_iload_n hX 1 rfl dX4_count_0 ?_
  by_cases c0 : x = 0
  · subst c0
    refine wl_tableIn hX (off := 39) (tgt := 40) dX4_count_1 (by decide) (by decide) (by decide) (by decide) ?_
    refine wl_aload_n hX 0 rfl dX4_count_40 ?_
    refine gf_X4_0 hX tb_189 dX4_count_41 ?_
    refine gf_X1_0 hX tb_50 dX4_count_44 ?_
    refine wl_eqi (y := nI P) hP ?_
    exact wl_ireturn hT dX4_count_47 (hx_ri (by unfold countR; simp))
  · by_cases c1 : x = 1
    · subst c1
      refine wl_tableIn hX (off := 47) (tgt := 48) dX4_count_1 (by decide) (by decide) (by decide) (by decide) ?_
      refine wl_aload_n hX 0 rfl dX4_count_48 ?_
      refine gf_X4_0 hX tb_189 dX4_count_49 ?_
      refine gf_X1_1 hX tb_54 dX4_count_52 ?_
      refine wl_eqi (y := nI Q) hQ ?_
      exact wl_ireturn hT dX4_count_55 (hx_ri (by unfold countR; simp))
    · by_cases c2 : x = 2
      · subst c2
        refine wl_tableIn hX (off := 55) (tgt := 56) dX4_count_1 (by decide) (by decide) (by decide) (by decide) ?_
        refine wl_aload_n hX 0 rfl dX4_count_56 ?_
        refine gf_X4_3 hX tb_192 dX4_count_57 ?_
        refine gf_X0_1 hX tb_172 dX4_count_60 ?_
        refine wl_eqi (y := nI R) hR ?_
        exact wl_ireturn hT dX4_count_63 (hx_ri (by unfold countR; simp))
      · by_cases c3 : x = 3
        · subst c3
          refine wl_tableIn hX (off := 63) (tgt := 64) dX4_count_1 (by decide) (by decide) (by decide) (by decide) ?_
          refine wl_aload_n hX 0 rfl dX4_count_64 ?_
          refine gf_X4_0 hX tb_189 dX4_count_65 ?_
          refine wl_cVi hX (c_X1_peoplePresent hi I J P hP hP12) mv_X1_peoplePresent tb_474 (by decide) rfl rfl rfl rfl (by omega) (Nat.le_of_ble_eq_true rfl) dX4_count_68 ?_
          exact wl_ireturn hT dX4_count_71 (hx_ri (by unfold countR; simp))
        · by_cases c4 : x = 4
          · subst c4
            refine wl_tableIn hX (off := 71) (tgt := 72) dX4_count_1 (by decide) (by decide) (by decide) (by decide) ?_
            refine wl_aload_n hX 0 rfl dX4_count_72 ?_
            refine gf_X4_2 hX tb_191 dX4_count_73 ?_
            refine gf_X2_3 hX tb_140 dX4_count_76 ?_
            exact wl_ireturn hT dX4_count_79 (hx_ri (by unfold countR; simp))
          · by_cases c5 : x = 5
            · subst c5
              refine wl_tableIn hX (off := 79) (tgt := 80) dX4_count_1 (by decide) (by decide) (by decide) (by decide) ?_
              refine wl_aload_n hX 0 rfl dX4_count_80 ?_
              refine gf_X4_2 hX tb_191 dX4_count_81 ?_
              refine gf_X2_4 hX tb_142 dX4_count_84 ?_
              exact wl_ireturn hT dX4_count_87 (hx_ri (by unfold countR; simp))
            · refine wl_tableOut hX (tgt := 88) dX4_count_1 (hx_far c0 c1 c2 c3 c4 c5) (by decide) ?_
              refine wl_bipush hX (v := (-102)) dX4_count_88 (by decide) ?_
              exact wl_ireturn hT dX4_count_90 (hx_ri (by unfold countR; rw [if_neg c0, if_neg c1, if_neg c2, if_neg c3, if_neg c4, if_neg c5]))

set_option maxHeartbeats 400000 in
theorem c_X4_digest {l : Launch} {D : va_G} {ad : Nat → Nat} {cy : Nat → ClassId} (hi : hx_inj ad) (I : MI) (J : MJ) (P : Nat) (hP : I 1 0 = nI P) (hP12 : P ≤ 12) (Q : Nat) (hQ : I 1 1 = nI Q) (hQ6 : Q ≤ 6) (R : Nat) (hR : I 4 1 = nI R) (hR6 : R ≤ 6) : Ct l D ad cy yX4_digest cX4_digest 4 (some .long) 1 [.ref (ad 0)] I J (hx_is (some (.long (digestR (fun p z => dgFF (gC I p) (bC I p) R p (dgHF (I 6 p) (I 7 p) (vC I p) (wC I p) Q z)) P (I 1 2) (I 3 3) (I 3 4)))) I J) := by
  refine ct_start hi (by decide +kernel) (Nat.le_of_ble_eq_true rfl) (fun X hX hT => ?_)
  show X 0 [(0, .ref (ad 0))] [] I J
  refine wl_ldc2 hX tb_482 dX4_digest_0 ?_
  refine wl_lstore_n hX (lv' := [(1, .long 103), (0, .ref (ad 0))]) rfl (by decide) dX4_digest_3 ?_
  refine wl_iconst hX (v := 0) dX4_digest_4 (by decide) ?_
  refine wl_istore_n hX (lv' := [(3, .int 0), (1, .long 103), (0, .ref (ad 0))]) rfl (by decide) dX4_digest_5 ?_
  refine wl_sub hX [2, 1, 0] rfl ?_
  have L : ∀ (k p : Nat), p ≤ P → P - p < k → X 6 [(0, .ref (ad 0)), (1, .long (dgF (fun p z => dgFF (gC I p) (bC I p) R p (dgHF (I 6 p) (I 7 p) (vC I p) (wC I p) Q z)) p 103)), (3, .int (nI p))] [] I J := by
    intro k
    induction k with
    | zero => exact fun _  _ h => absurd h (Nat.not_lt_zero _)
    | succ k ihL =>
      intro p  hpn hpk
      refine wl_iload_n hX 2 rfl dX4_digest_6 ?_
      refine wl_aload_n hX 0 rfl dX4_digest_7 ?_
      refine gf_X4_0 hX tb_189 dX4_digest_8 ?_
      refine gf_X1_0 hX tb_50 dX4_digest_11 ?_
      refine wl_eqi (y := nI P) hP ?_
      refine wl_icmp_ge hX (tgt := 43) dX4_digest_14 (by decide) (fun hpc => ?_) (fun hpc => ?_)
      · have hpe : p = P := by
          have h9 := (nI_leI (by omega) (by omega)).mp hpc
          omega
        refine wl_ldc2 hX tb_493 dX4_digest_43 ?_
        refine wl_lload_n hX 1 rfl dX4_digest_46 ?_
        refine wl_lmul hX dX4_digest_47 ?_
        refine wl_aload_n hX 0 rfl dX4_digest_48 ?_
        refine gf_X4_0 hX tb_189 dX4_digest_49 ?_
        refine gf_X1_2 hX tb_56 dX4_digest_52 ?_
        refine wl_i2l hX (v := (I 1 2).toInt64) dX4_digest_55 rfl ?_
        refine wl_ladd hX dX4_digest_56 ?_
        refine wl_lstore_n hX (lv' := [(1, .long ((31 * (dgF (fun p z => dgFF (gC I p) (bC I p) R p (dgHF (I 6 p) (I 7 p) (vC I p) (wC I p) Q z)) p 103)) + ((I 1 2).toInt64))), (0, .ref (ad 0)), (3, .int (nI p))]) rfl (by decide) dX4_digest_57 ?_
        refine wl_ldc2 hX tb_493 dX4_digest_58 ?_
        refine wl_lload_n hX 0 rfl dX4_digest_61 ?_
        refine wl_lmul hX dX4_digest_62 ?_
        refine wl_aload_n hX 1 rfl dX4_digest_63 ?_
        refine gf_X4_2 hX tb_191 dX4_digest_64 ?_
        refine gf_X2_3 hX tb_140 dX4_digest_67 ?_
        refine wl_i2l hX (v := (I 3 3).toInt64) dX4_digest_70 rfl ?_
        refine wl_ladd hX dX4_digest_71 ?_
        refine wl_lstore_n hX (lv' := [(1, .long ((31 * ((31 * (dgF (fun p z => dgFF (gC I p) (bC I p) R p (dgHF (I 6 p) (I 7 p) (vC I p) (wC I p) Q z)) p 103)) + ((I 1 2).toInt64))) + ((I 3 3).toInt64))), (0, .ref (ad 0)), (3, .int (nI p))]) rfl (by decide) dX4_digest_72 ?_
        refine wl_ldc2 hX tb_493 dX4_digest_73 ?_
        refine wl_lload_n hX 0 rfl dX4_digest_76 ?_
        refine wl_lmul hX dX4_digest_77 ?_
        refine wl_aload_n hX 1 rfl dX4_digest_78 ?_
        refine gf_X4_2 hX tb_191 dX4_digest_79 ?_
        refine gf_X2_4 hX tb_142 dX4_digest_82 ?_
        refine wl_i2l hX (v := (I 3 4).toInt64) dX4_digest_85 rfl ?_
        refine wl_ladd hX dX4_digest_86 ?_
        exact wl_lreturn hT dX4_digest_87 (hx_rl (by rw [hpe]; rfl))
      · have hp1 : p < P := Nat.lt_of_not_le (fun z => hpc ((nI_leI (by omega) (by omega)).mpr z))
        refine wl_aload_n hX 0 rfl dX4_digest_17 ?_
        refine gf_X4_0 hX tb_189 dX4_digest_18 ?_
        refine wl_lload_n hX 1 rfl dX4_digest_21 ?_
        refine wl_iload_n hX 2 rfl dX4_digest_22 ?_
        refine wl_cVl hX (c_X1_digestPerson hi I J (dgF (fun p z => dgFF (gC I p) (bC I p) R p (dgHF (I 6 p) (I 7 p) (vC I p) (wC I p) Q z)) p 103) p (by omega) Q hQ hQ6) mv_X1_digestPerson tb_483 (by decide) rfl rfl rfl rfl (by omega) (Nat.le_of_ble_eq_true rfl) dX4_digest_23 ?_
        refine wl_lstore_n hX (lv' := [(1, .long (dgHF (I 6 p) (I 7 p) (vC I p) (wC I p) Q (dgF (fun p z => dgFF (gC I p) (bC I p) R p (dgHF (I 6 p) (I 7 p) (vC I p) (wC I p) Q z)) p 103))), (0, .ref (ad 0)), (3, .int (nI p))]) rfl (by decide) dX4_digest_26 ?_
        refine wl_aload_n hX 1 rfl dX4_digest_27 ?_
        refine gf_X4_3 hX tb_192 dX4_digest_28 ?_
        refine wl_lload_n hX 0 rfl dX4_digest_31 ?_
        refine wl_iload_n hX 2 rfl dX4_digest_32 ?_
        refine wl_cVl hX (c_X0_digestPerson hi I J (dgHF (I 6 p) (I 7 p) (vC I p) (wC I p) Q (dgF (fun p z => dgFF (gC I p) (bC I p) R p (dgHF (I 6 p) (I 7 p) (vC I p) (wC I p) Q z)) p 103)) p (by omega) R hR hR6) mv_X0_digestPerson tb_488 (by decide) rfl rfl rfl rfl (by omega) (Nat.le_of_ble_eq_true rfl) dX4_digest_33 ?_
        refine wl_lstore_n hX (lv' := [(1, .long (dgF (fun p z => dgFF (gC I p) (bC I p) R p (dgHF (I 6 p) (I 7 p) (vC I p) (wC I p) Q z)) (p + 1) 103)), (0, .ref (ad 0)), (3, .int (nI p))]) rfl (by decide) dX4_digest_36 ?_
        refine wl_iinc hX (v := nI (p + 1)) (lv' := [(3, .int (nI (p + 1))), (1, .long (dgF (fun p z => dgFF (gC I p) (bC I p) R p (dgHF (I 6 p) (I 7 p) (vC I p) (wC I p) Q z)) (p + 1) 103)), (0, .ref (ad 0))]) 2 rfl (nI_1 _) rfl (by decide) dX4_digest_37 ?_
        refine wl_goto hX (tgt := 6) dX4_digest_40 (by decide) ?_
        refine wl_sub hX [2, 1, 0] rfl ?_
        exact ihL (p + 1) (by omega) (by omega)
  exact L (P + 1) 0 (by omega) (by omega)
end

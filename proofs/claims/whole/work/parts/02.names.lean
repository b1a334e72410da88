/-! ===== BEGIN words of one list among another's, by their places ===== -/
theorem goodIn_r {big : List Cond} (ws : List Cond) (ps : List Nat) (hp : ws = ps.filterMap (fun i => big[i]?)) (h : ws.all goodWord = true) : GoodIn big ws := by
  intro w hw
  have h1 := List.all_eq_true.mp h w hw
  rw [hp] at hw
  obtain ⟨i, -, hi⟩ := List.mem_filterMap.mp hw
  have hm : w ∈ big := by first | exact List.mem_of_getElem? hi | exact List.getElem?_mem hi
  exact ⟨hm, good_of_word h1⟩
theorem goodIn_app {big a b : List Cond} (ha : GoodIn big a) (hb : GoodIn big b) : GoodIn big (a ++ b) := fun w h => (List.mem_append.mp h).elim (ha w) (hb w)
theorem goodIn_ca {big a b : List Cond} {c : Cond} (ha : GoodIn big (c :: a)) (hb : GoodIn big b) : GoodIn big (c :: (a ++ b)) := fun w h => (List.mem_cons.mp h).elim (fun e => ha w (List.mem_cons.mpr (Or.inl e))) (fun h => (List.mem_append.mp h).elim (fun h => ha w (List.mem_cons.mpr (Or.inr h))) (hb w))
theorem goodIn_sub {big ws : List Cond} (hm : ∀ w ∈ ws, w ∈ big) (h : ws.all goodWord = true) : GoodIn big ws := fun w hw => ⟨hm w hw, good_of_word (List.all_eq_true.mp h w hw)⟩
/-! ===== END ===== -/

/-! ===== BEGIN new T[n][m]: the outer array a place, the inner ones among the pooled ===== -/
/-- f, but v at every address of l -/
def vr_up {α : Type} (f : Nat → α) (l : List Nat) (v : α) : Nat → α := fun a => if a ∈ l then v else f a
theorem vr_up_in {α : Type} {f : Nat → α} {l : List Nat} {v : α} {a : Nat} (h : a ∈ l) : vr_up f l v a = v := if_pos h
theorem vr_up_ne {α : Type} {f : Nat → α} {l : List Nat} {v : α} {a : Nat} (h : a ∉ l) : vr_up f l v a = f a := if_neg h
theorem vr_rows {L l : List Nat} {f : Nat → va_E} {e : va_E} (h : ∀ a, a ∈ l → a ∉ L) : va_pl L f ++ l.map (fun a => (a, e)) = va_pl (L ++ l) (vr_up f l e) := by
  unfold va_pl
  rw [List.map_append]
  congr 1
  · apply List.map_congr_left
    intro a ha
    rw [vr_up_ne (fun q => h a q ha)]
  · apply List.map_congr_left
    intro a ha
    rw [vr_up_in ha]
theorem vr_lay {X rows : va_W} {x : Nat × va_E} {pl : va_W} {D : va_G} {cl : List vw_C} {H : Heap} (hP : va_P D cl (((X ++ pl) ++ [x]) ++ rows) H) : va_P D cl ((X ++ [x]) ++ (pl ++ rows)) H := by
  rw [List.append_assoc (X ++ pl)] at hP
  have h := va_P.swap hP
  rw [← List.append_assoc X] at h
  have h2 := va_P.swap h
  rw [List.append_assoc (X ++ [x])] at h2
  exact h2
theorem vr_layD {X rows : va_W} {x : Nat × va_E} {pl : va_W} {A : Nat → Prop} (hD : va_D A (((X ++ pl) ++ [x]) ++ rows)) : va_D A ((X ++ [x]) ++ (pl ++ rows)) := by
  rw [List.append_assoc (X ++ pl)] at hD
  have h := va_D.swap hD
  rw [← List.append_assoc X] at h
  have h2 := va_D.swap h
  rw [List.append_assoc (X ++ [x])] at h2
  exact h2
theorem vr_outer (c : ClassId) (N h0 : Nat) : ∀ i : Nat, Jvm.Free.Multi.outerC c N h0 i = arrV c N (fun j => va_rf (if j < i then some (h0 + 1 + j) else none))
  | 0 => by
    show ({ cls := c, slots := Array.replicate N .null, vm := .none } : Cell) = _
    rw [arrV_new]
    refine congrArg (arrV c N) (funext fun j => ?_)
    simp [va_rf]
  | i + 1 => by
    show (Jvm.Free.Multi.outerC c N h0 i).setSlot i (.ref (h0 + 1 + i)) = _
    rw [vr_outer c N h0 i, arrV_store]
    refine congrArg (arrV c N) (funext fun j => ?_)
    by_cases e : j = i
    · subst e
      simp [updV, va_rf]
    · by_cases h : j < i
      · simp [updV, e, h, Nat.lt_succ_of_lt h]
      · simp [updV, e, h, show ¬ j < i + 1 by omega]
section VGM
variable {p : Program} {l : Launch} {e : Env} {R : Room} {s : State} {m : MethodId} {args : Array Value} {below : List Frame} {meth : Method} {c : Code} {H : Heap} {locs : List Loc} {cells slots : Nat} {Q : State → Prop}
variable {cc : ByteArray} {pc : Nat} {ls : Array Slot} {rest : List Value} {D : va_G} {cl : List vw_C} {A : Nat → Prop} {a : Nat} {tys : List (ClassId × FieldType)} {ws : va_W} {H0 : Heap}
theorem va_mna {X : va_W} {L : List Nat} {f : Nat → va_E} {cc : ByteArray} (hexec : p.tables.exec = Jvm.exec) (hb : c.code = cc) {own : String} {index : Nat} {ty : FieldType} {cy : ClassId} (hown : s.vm.findClass own = some m.cls) (hclink : (Cond.classLink own index ("[" ++ (FieldType.array ty).toString)).before args s = true) (hover : (Cond.arrayOver (.array ty)).before args s = true) (harr : (Cond.arrayClass ty).before args s = true) (hcy : s.vm.findClass (FieldType.array ty).toString = some cy)
    (hK : va_K D cl tys s) (hP : va_P D cl (X ++ va_pl L f) H) (hD : va_D A (X ++ va_pl L f)) (hS : va_S A H0 H locs) (hA : ∀ q, H0.size ≤ q → A q) {n k : Int32} {N' K' : Nat} {z : vp_A} (hn : ¬ n < 0) (hk : ¬ k < 0) (hN : n.toNatClampNeg = N') (hM : k.toNatClampNeg = K')
    (hb1 : N' * 4 ≤ 536870912) (hb2 : K' * componentBytes ty ≤ 536870912) (hb3 : K' ≤ 536870912) (hdf : fits ty (defaultValue ty) = true) (hdd : (defaultValue ty).isDefault = true) (hcells : cells + (1 + N') ≤ R.cells) (hslots : slots + (N' + N' * K') ≤ R.slots) (hz : ∀ c : ClassId, Jvm.Free.Multi.innerC c K' (defaultValue ty) = vp_cell c z) (hdg : decode cc pc = .ok (.multianewarray index 2, 4))
    (kk : ∀ (q : Nat) (r : Nat → Nat) (cA : ClassId) (H1 : Heap), (∀ i j : Nat, i < N' → j < N' → r i = r j → i = j) → (∀ i : Nat, i < N' → r i ∉ L) → va_K D cl (tys ++ [(cA, .array ty)]) s →
      va_P D cl ((X ++ [(q, .inl (cA, N', .inr (.inr (.inr (.inr (fun i => if i < N' then some (r i) else none))))))]) ++ va_pl (L ++ (List.range N').map r) (vr_up f ((List.range N').map r) (.inl (cy, z)))) H1 → va_D A ((X ++ [(q, .inl (cA, N', .inr (.inr (.inr (.inr (fun i => if i < N' then some (r i) else none))))))]) ++ va_pl (L ++ (List.range N').map r) (vr_up f ((List.range N').map r) (.inl (cy, z)))) → va_S A H0 H1 locs →
      W p l e R s m args below meth c H1 locs (cells + 1 + N') (slots + N' + N' * K') Q (F0 m (pc + 4) ls (.ref q :: rest))) : W p l e R s m args below meth c H locs cells slots Q (F0 m pc ls (.int k :: .int n :: rest)) := by
  subst hN
  subst hM
  intro T hT Xs
  obtain ⟨vm₁, cA, comp, -, fA, fC, hO, -, X', step⟩ := Xs.multianewarray2F hexec hown hclink hover harr (g := F0 m pc ls (.int k :: .int n :: rest)) rfl (by rw [hb]; exact hdg) rfl hn hk hb1 hb2 hb3 hdf hdd hcells hslots
  have ec : some cy = some comp := hcy.symm.trans fC
  cases ec
  generalize hF : Jvm.Free.Multi.fill (T.setVm vm₁) cA cy n.toNatClampNeg k.toNatClampNeg (defaultValue ty) n.toNatClampNeg = F at X' step
  have hTh : (T.setVm vm₁).heap = H := hT
  obtain ⟨f1, f2, -, -⟩ := Jvm.Free.Multi.fill_facts (T.setVm vm₁) cA cy n.toNatClampNeg k.toNatClampNeg (defaultValue ty) n.toNatClampNeg
  rw [hF, hTh] at f1 f2
  have hold : ∀ x : Nat, x < H.size → F.heap[x]? = H[x]? := fun x hx => by
    have := Jvm.Free.Multi.fill_old (T.setVm vm₁) cA cy n.toNatClampNeg k.toNatClampNeg (defaultValue ty) (a := x) (by rw [hTh]; exact hx) n.toNatClampNeg
    rw [hF, hTh] at this
    exact this
  have hrow : ∀ j : Nat, j < n.toNatClampNeg → F.heap[H.size + 1 + j]? = some (vp_cell cy z) := fun j hj => by
    have := Jvm.Free.Multi.fill_inner (T.setVm vm₁) cA cy n.toNatClampNeg k.toNatClampNeg (defaultValue ty) n.toNatClampNeg j hj
    rw [hF, hTh, hz] at this
    exact this
  have hout : Jvm.Free.Multi.outerC cA n.toNatClampNeg H.size n.toNatClampNeg = vp_cell cA (n.toNatClampNeg, .inr (.inr (.inr (.inr (fun i => if i < n.toNatClampNeg then some (H.size + 1 + i) else none))))) := by
    rw [vp_cell_q]
    exact vr_outer cA n.toNatClampNeg H.size n.toNatClampNeg
  rw [hout] at f2
  have hlt : ∀ a, a ∈ L → a < H.size := fun a ha => by
    obtain ⟨k9, hk9⟩ := va_pl_get (X := X) (f := f) ha
    exact (hP k9 _ hk9).lt
  have hnl : ∀ i : Nat, i < n.toNatClampNeg → H.size + 1 + i ∉ L := fun i _ h => by
    have := hlt _ h
    omega
  have hnm : ∀ a, a ∈ (List.range n.toNatClampNeg).map (fun i => H.size + 1 + i) → a ∉ L := fun a ha h => by
    obtain ⟨i, -, rfl⟩ := List.mem_map.mp ha
    have := hlt _ h
    omega
  have hP0 : va_P D cl (X ++ va_pl L f) F.heap := hP.kept (fun k9 x hx => hold x.1 ((hP k9 x hx).lt))
  have hP1 : va_P D cl ((X ++ va_pl L f) ++ [(H.size, .inl (cA, n.toNatClampNeg, .inr (.inr (.inr (.inr (fun i => if i < n.toNatClampNeg then some (H.size + 1 + i) else none))))))]) F.heap := hP0.app (fun k9 x hx => by
    have h0 : k9 < 1 := (List.getElem?_eq_some_iff.mp hx).1
    rw [show k9 = 0 by omega] at hx
    cases hx
    exact f2)
  have hP2 : va_P D cl (((X ++ va_pl L f) ++ [(H.size, .inl (cA, n.toNatClampNeg, .inr (.inr (.inr (.inr (fun i => if i < n.toNatClampNeg then some (H.size + 1 + i) else none))))))]) ++ ((List.range n.toNatClampNeg).map (fun i => H.size + 1 + i)).map (fun a => (a, .inl (cy, z)))) F.heap := hP1.app (fun k9 x hx => by
    obtain ⟨a, ha, rfl⟩ := List.mem_map.mp (List.mem_of_getElem? hx)
    obtain ⟨i, hi, rfl⟩ := List.mem_map.mp ha
    exact hrow i (List.mem_range.mp hi))
  have hD2 : va_D A (((X ++ va_pl L f) ++ [(H.size, .inl (cA, n.toNatClampNeg, .inr (.inr (.inr (.inr (fun i => if i < n.toNatClampNeg then some (H.size + 1 + i) else none))))))]) ++ ((List.range n.toNatClampNeg).map (fun i => H.size + 1 + i)).map (fun a => (a, .inl (cy, z)))) := by
    have hD1 := hD.push (e := .inl (cA, n.toNatClampNeg, .inr (.inr (.inr (.inr (fun i => if i < n.toNatClampNeg then some (H.size + 1 + i) else none)))))) hP rfl (hA _ hS.1)
    generalize hW1 : (X ++ va_pl L f) ++ [(H.size, .inl (cA, n.toNatClampNeg, .inr (.inr (.inr (.inr (fun i => if i < n.toNatClampNeg then some (H.size + 1 + i) else none))))))] = W1 at hD1 hP1 ⊢
    have hle : ∀ (k9 : Nat) (x : Nat × va_E), W1[k9]? = some x → x.1 ≤ H.size := fun k9 x hx => by
      rw [← hW1] at hx
      by_cases hl : k9 < (X ++ va_pl L f).length
      · rw [List.getElem?_append_left hl] at hx
        exact Nat.le_of_lt ((hP k9 x hx).lt)
      · rw [List.getElem?_append_right (by omega)] at hx
        have h0 : k9 - (X ++ va_pl L f).length < 1 := (List.getElem?_eq_some_iff.mp hx).1
        rw [show k9 - (X ++ va_pl L f).length = 0 by omega] at hx
        cases hx
        exact Nat.le_refl _
    have hr : ∀ (k9 : Nat) (x : Nat × va_E), (((List.range n.toNatClampNeg).map (fun i => H.size + 1 + i)).map (fun a => ((a, .inl (cy, z)) : Nat × va_E)))[k9]? = some x → x.1 = H.size + 1 + k9 := fun k9 x hx => by
      rw [List.getElem?_map, List.getElem?_map] at hx
      by_cases h9 : k9 < n.toNatClampNeg
      · rw [List.getElem?_range h9] at hx
        cases hx
        rfl
      · have hn0 : (List.range n.toNatClampNeg)[k9]? = none := List.getElem?_eq_none (by rw [List.length_range]; omega)
        rw [hn0] at hx
        cases hx
    refine ⟨fun i j x y hi hj hxy => ?_, fun k9 x hx => ?_⟩
    · by_cases h1 : i < W1.length <;> by_cases h2 : j < W1.length
      · rw [List.getElem?_append_left h1] at hi
        rw [List.getElem?_append_left h2] at hj
        exact hD1.1 i j x y hi hj hxy
      · rw [List.getElem?_append_left h1] at hi
        rw [List.getElem?_append_right (by omega)] at hj
        have := hle _ _ hi
        have := hr _ _ hj
        omega
      · rw [List.getElem?_append_right (by omega)] at hi
        rw [List.getElem?_append_left h2] at hj
        have := hle _ _ hj
        have := hr _ _ hi
        omega
      · rw [List.getElem?_append_right (by omega)] at hi hj
        have := hr _ _ hi
        have := hr _ _ hj
        omega
    · by_cases h1 : k9 < W1.length
      · rw [List.getElem?_append_left h1] at hx
        exact hD1.2 k9 x hx
      · rw [List.getElem?_append_right (by omega)] at hx
        have := hr _ _ hx
        exact hA _ (by have := hS.1; omega)
  have hAr : ArrOfT s cA (.array ty) := fun N9 z9 => by
    obtain ⟨-, k9, hk9, cm9, hkk9⟩ := (hO 0 0 0).1
    exact ⟨(fun q hq => by cases hq), k9, hk9, cm9, hkk9⟩
  have hK2 : va_K D cl (tys ++ [(cA, .array ty)]) s := ⟨hK.1, fun k9 x hx => by
    by_cases hl : k9 < tys.length
    · rw [List.getElem?_append_left hl] at hx
      exact hK.2 k9 x hx
    · rw [List.getElem?_append_right (by omega)] at hx
      have h0 : k9 - tys.length < 1 := (List.getElem?_eq_some_iff.mp hx).1
      rw [show k9 - tys.length = 0 by omega] at hx
      cases hx
      exact ⟨hAr, fA⟩⟩
  obtain ⟨t, a1, b1⟩ := kk H.size (fun i => H.size + 1 + i) cA F.heap (fun i j _ _ h => by have h9 : H.size + 1 + i = H.size + 1 + j := h; omega) hnl hK2 (by rw [← vr_rows hnm]; exact vr_lay hP2) (by rw [← vr_rows hnm]; exact vr_layD hD2) ⟨by rw [f1]; have := hS.1; omega, fun x h1 h2 => (hold x (Nat.lt_of_lt_of_le h1 hS.1)).trans (hS.2.1 x h1 h2), hS.2.2⟩ F rfl X'
  refine ⟨t, step t ?_, b1⟩
  have e : T.heap.size = H.size := by rw [hT]
  rw [e]
  exact a1
end VGM
/-! ===== END ===== -/

/-! ===== BEGIN printed: names, fields, word lists, decode rows ===== -/
def RX0 : String := "DearVotes$Fund"
def TX0 : u_T := fun k => match k with
  | 0 => ("DearVotes$Fund", "house", "LDearVotes$House;", true)
  | 1 => ("DearVotes$Fund", "projects", "I", false)
  | 2 => ("DearVotes$Fund", "gifts", "[[I", true)
  | 3 => ("DearVotes$Fund", "bonds", "[[I", true)
  | _ => ("DearVotes$Fund", "lows", "[J", true)
def tyX0 : Nat → FieldType := fun k => match k with
  | 0 => .object "DearVotes$House"
  | 1 => .int
  | 2 => .array (.array .int)
  | 3 => .array (.array .int)
  | _ => .array .long
abbrev wsX00 : List Cond := u_ws RX0 TX0 5
theorem nmX0 : ∀ a, a < 5 → ∀ b, b < 5 → a ≠ b → (TX0 a).2.1 ≠ (TX0 b).2.1 := by decide +kernel
theorem tyX0_ok : ∀ k, k < 5 → parseFieldDescriptor (TX0 k).2.2.1 = some (tyX0 k) := by decide +kernel
abbrev cX0_init : ByteArray := prog_2_method_1_code
def yX0_init : MethodName := ⟨RX0, "<init>", "(LDearVotes$House;)V"⟩
abbrev cX0_hasProject : ByteArray := prog_2_method_2_code
def yX0_hasProject : MethodName := ⟨RX0, "hasProject", "(I)Z"⟩
abbrev cX0_matchedLow : ByteArray := prog_2_method_3_code
def yX0_matchedLow : MethodName := ⟨RX0, "matchedLow", "(I)J"⟩
abbrev cX0_matchedUndamped : ByteArray := prog_2_method_4_code
def yX0_matchedUndamped : MethodName := ⟨RX0, "matchedUndamped", "(I)J"⟩
abbrev cX0_matchedHigh : ByteArray := prog_2_method_5_code
def yX0_matchedHigh : MethodName := ⟨RX0, "matchedHigh", "(I)J"⟩
abbrev cX0_fineProduct : ByteArray := prog_2_method_6_code
def yX0_fineProduct : MethodName := ⟨RX0, "fineProduct", "(III)J"⟩
abbrev cX0_root : ByteArray := prog_2_method_7_code
def yX0_root : MethodName := ⟨RX0, "root", "(J)J"⟩
abbrev cX0_rootAbove : ByteArray := prog_2_method_8_code
def yX0_rootAbove : MethodName := ⟨RX0, "rootAbove", "(J)J"⟩
abbrev cX0_shareOf : ByteArray := prog_2_method_9_code
def yX0_shareOf : MethodName := ⟨RX0, "shareOf", "(IJ)J"⟩
abbrev cX0_digestPerson : ByteArray := prog_2_method_10_code
def yX0_digestPerson : MethodName := ⟨RX0, "digestPerson", "(JI)J"⟩
def RX1 : String := "DearVotes$House"
def TX1 : u_T := fun k => match k with
  | 0 => ("DearVotes$House", "people", "I", false)
  | 1 => ("DearVotes$House", "questions", "I", false)
  | 2 => ("DearVotes$House", "seed", "I", false)
  | 3 => ("DearVotes$House", "budgets", "[I", true)
  | 4 => ("DearVotes$House", "present", "[Z", true)
  | 5 => ("DearVotes$House", "voices", "[[I", true)
  | _ => ("DearVotes$House", "worths", "[[I", true)
def tyX1 : Nat → FieldType := fun k => match k with
  | 0 => .int
  | 1 => .int
  | 2 => .int
  | 3 => .array .int
  | 4 => .array .boolean
  | 5 => .array (.array .int)
  | _ => .array (.array .int)
abbrev wsX10 : List Cond := u_ws RX1 TX1 7
theorem nmX1 : ∀ a, a < 7 → ∀ b, b < 7 → a ≠ b → (TX1 a).2.1 ≠ (TX1 b).2.1 := by decide +kernel
theorem tyX1_ok : ∀ k, k < 7 → parseFieldDescriptor (TX1 k).2.2.1 = some (tyX1 k) := by decide +kernel
abbrev cX1_init : ByteArray := prog_3_method_1_code
def yX1_init : MethodName := ⟨RX1, "<init>", "()V"⟩
abbrev cX1_hasPerson : ByteArray := prog_3_method_2_code
def yX1_hasPerson : MethodName := ⟨RX1, "hasPerson", "(I)Z"⟩
abbrev cX1_hasQuestion : ByteArray := prog_3_method_3_code
def yX1_hasQuestion : MethodName := ⟨RX1, "hasQuestion", "(I)Z"⟩
abbrev cX1_addPerson : ByteArray := prog_3_method_4_code
def yX1_addPerson : MethodName := ⟨RX1, "addPerson", "(I)I"⟩
abbrev cX1_peoplePresent : ByteArray := prog_3_method_5_code
def yX1_peoplePresent : MethodName := ⟨RX1, "peoplePresent", "()I"⟩
abbrev cX1_costOf : ByteArray := prog_3_method_6_code
def yX1_costOf : MethodName := ⟨RX1, "costOf", "(I)I"⟩
abbrev cX1_countOf : ByteArray := prog_3_method_7_code
def yX1_countOf : MethodName := ⟨RX1, "countOf", "(I)I"⟩
abbrev cX1_countWithout : ByteArray := prog_3_method_8_code
def yX1_countWithout : MethodName := ⟨RX1, "countWithout", "(II)I"⟩
abbrev cX1_resultOf : ByteArray := prog_3_method_9_code
def yX1_resultOf : MethodName := ⟨RX1, "resultOf", "(II)I"⟩
abbrev cX1_gainOf : ByteArray := prog_3_method_10_code
def yX1_gainOf : MethodName := ⟨RX1, "gainOf", "(I)I"⟩
abbrev cX1_gainBy : ByteArray := prog_3_method_11_code
def yX1_gainBy : MethodName := ⟨RX1, "gainBy", "(II)I"⟩
abbrev cX1_swingsOf : ByteArray := prog_3_method_12_code
def yX1_swingsOf : MethodName := ⟨RX1, "swingsOf", "(I)I"⟩
abbrev cX1_likenessOf : ByteArray := prog_3_method_13_code
def yX1_likenessOf : MethodName := ⟨RX1, "likenessOf", "(II)I"⟩
abbrev cX1_groupOf : ByteArray := prog_3_method_14_code
def yX1_groupOf : MethodName := ⟨RX1, "groupOf", "(II)I"⟩
abbrev cX1_alikeTo : ByteArray := prog_3_method_15_code
def yX1_alikeTo : MethodName := ⟨RX1, "alikeTo", "(II)I"⟩
abbrev cX1_voicesInOne : ByteArray := prog_3_method_16_code
def yX1_voicesInOne : MethodName := ⟨RX1, "voicesInOne", "(I)J"⟩
abbrev cX1_digestPerson : ByteArray := prog_3_method_17_code
def yX1_digestPerson : MethodName := ⟨RX1, "digestPerson", "(JI)J"⟩
def RX2 : String := "DearVotes$Rounds"
def TX2 : u_T := fun k => match k with
  | 0 => ("DearVotes$Rounds", "house", "LDearVotes$House;", true)
  | 1 => ("DearVotes$Rounds", "search", "LDearVotes$Search;", true)
  | 2 => ("DearVotes$Rounds", "trail", "[[J", true)
  | 3 => ("DearVotes$Rounds", "doneEver", "I", false)
  | 4 => ("DearVotes$Rounds", "changesEver", "I", false)
  | 5 => ("DearVotes$Rounds", "ending", "I", false)
  | _ => ("DearVotes$Rounds", "ringLength", "I", false)
def tyX2 : Nat → FieldType := fun k => match k with
  | 0 => .object "DearVotes$House"
  | 1 => .object "DearVotes$Search"
  | 2 => .array (.array .long)
  | 3 => .int
  | 4 => .int
  | 5 => .int
  | _ => .int
abbrev wsX20 : List Cond := u_ws RX2 TX2 7
theorem nmX2 : ∀ a, a < 7 → ∀ b, b < 7 → a ≠ b → (TX2 a).2.1 ≠ (TX2 b).2.1 := by decide +kernel
theorem tyX2_ok : ∀ k, k < 7 → parseFieldDescriptor (TX2 k).2.2.1 = some (tyX2 k) := by decide +kernel
abbrev cX2_init : ByteArray := prog_4_method_1_code
def yX2_init : MethodName := ⟨RX2, "<init>", "(LDearVotes$House;LDearVotes$Search;)V"⟩
abbrev cX2_playAtMost : ByteArray := prog_4_method_2_code
def yX2_playAtMost : MethodName := ⟨RX2, "playAtMost", "(I)I"⟩
abbrev cX2_doRound : ByteArray := prog_4_method_3_code
def yX2_doRound : MethodName := ⟨RX2, "doRound", "()I"⟩
abbrev cX2_noteVoices : ByteArray := prog_4_method_4_code
def yX2_noteVoices : MethodName := ⟨RX2, "noteVoices", "(I)V"⟩
abbrev cX2_judge : ByteArray := prog_4_method_5_code
def yX2_judge : MethodName := ⟨RX2, "judge", "(II)V"⟩
abbrev cX2_isSameTrail : ByteArray := prog_4_method_6_code
def yX2_isSameTrail : MethodName := ⟨RX2, "isSameTrail", "(II)Z"⟩
def RX3 : String := "DearVotes$Search"
def TX3 : u_T := fun k => match k with
  | 0 => ("DearVotes$Search", "house", "LDearVotes$House;", true)
  | 1 => ("DearVotes$Search", "choices", "[I", true)
  | 2 => ("DearVotes$Search", "choiceVoices", "[[I", true)
  | 3 => ("DearVotes$Search", "choiceGains", "[[I", true)
  | 4 => ("DearVotes$Search", "gainAhead", "[I", true)
  | 5 => ("DearVotes$Search", "tried", "[I", true)
  | 6 => ("DearVotes$Search", "found", "[I", true)
  | 7 => ("DearVotes$Search", "foundGain", "I", false)
  | 8 => ("DearVotes$Search", "foundCost", "I", false)
  | _ => ("DearVotes$Search", "budget", "I", false)
def tyX3 : Nat → FieldType := fun k => match k with
  | 0 => .object "DearVotes$House"
  | 1 => .array .int
  | 2 => .array (.array .int)
  | 3 => .array (.array .int)
  | 4 => .array .int
  | 5 => .array .int
  | 6 => .array .int
  | 7 => .int
  | 8 => .int
  | _ => .int
abbrev wsX30 : List Cond := u_ws RX3 TX3 10
theorem nmX3 : ∀ a, a < 10 → ∀ b, b < 10 → a ≠ b → (TX3 a).2.1 ≠ (TX3 b).2.1 := by decide +kernel
theorem tyX3_ok : ∀ k, k < 10 → parseFieldDescriptor (TX3 k).2.2.1 = some (tyX3 k) := by decide +kernel
abbrev cX3_init : ByteArray := prog_5_method_1_code
def yX3_init : MethodName := ⟨RX3, "<init>", "(LDearVotes$House;)V"⟩
abbrev cX3_findFor : ByteArray := prog_5_method_2_code
def yX3_findFor : MethodName := ⟨RX3, "findFor", "(I)V"⟩
abbrev cX3_giveTo : ByteArray := prog_5_method_3_code
def yX3_giveTo : MethodName := ⟨RX3, "giveTo", "(I)V"⟩
abbrev cX3_listChoices : ByteArray := prog_5_method_4_code
def yX3_listChoices : MethodName := ⟨RX3, "listChoices", "(III)V"⟩
abbrev cX3_addChoice : ByteArray := prog_5_method_5_code
def yX3_addChoice : MethodName := ⟨RX3, "addChoice", "(III)V"⟩
abbrev cX3_tryFrom : ByteArray := prog_5_method_6_code
def yX3_tryFrom : MethodName := ⟨RX3, "tryFrom", "(LDearVotes$Search;III)V"⟩
abbrev cX3_keepIfBetter : ByteArray := prog_5_method_7_code
def yX3_keepIfBetter : MethodName := ⟨RX3, "keepIfBetter", "(II)V"⟩
abbrev cX3_triedIsLess : ByteArray := prog_5_method_8_code
def yX3_triedIsLess : MethodName := ⟨RX3, "triedIsLess", "()Z"⟩
def RX4 : String := "DearVotes"
def TX4 : u_T := fun k => match k with
  | 0 => ("DearVotes", "house", "LDearVotes$House;", true)
  | 1 => ("DearVotes", "search", "LDearVotes$Search;", true)
  | 2 => ("DearVotes", "rounds", "LDearVotes$Rounds;", true)
  | _ => ("DearVotes", "fund", "LDearVotes$Fund;", true)
def tyX4 : Nat → FieldType := fun k => match k with
  | 0 => .object "DearVotes$House"
  | 1 => .object "DearVotes$Search"
  | 2 => .object "DearVotes$Rounds"
  | _ => .object "DearVotes$Fund"
abbrev wsX40 : List Cond := u_ws RX4 TX4 4
theorem nmX4 : ∀ a, a < 4 → ∀ b, b < 4 → a ≠ b → (TX4 a).2.1 ≠ (TX4 b).2.1 := by decide +kernel
theorem tyX4_ok : ∀ k, k < 4 → parseFieldDescriptor (TX4 k).2.2.1 = some (tyX4 k) := by decide +kernel
abbrev cX4_init : ByteArray := prog_1_method_1_code
def yX4_init : MethodName := ⟨RX4, "<init>", "()V"⟩
abbrev cX4_person : ByteArray := prog_1_method_2_code
def yX4_person : MethodName := ⟨RX4, "person", "(I)I"⟩
abbrev cX4_question : ByteArray := prog_1_method_3_code
def yX4_question : MethodName := ⟨RX4, "question", "()I"⟩
abbrev cX4_project : ByteArray := prog_1_method_4_code
def yX4_project : MethodName := ⟨RX4, "project", "()I"⟩
abbrev cX4_seed : ByteArray := prog_1_method_5_code
def yX4_seed : MethodName := ⟨RX4, "seed", "(I)I"⟩
abbrev cX4_vote : ByteArray := prog_1_method_6_code
def yX4_vote : MethodName := ⟨RX4, "vote", "(III)I"⟩
abbrev cX4_worth : ByteArray := prog_1_method_7_code
def yX4_worth : MethodName := ⟨RX4, "worth", "(III)I"⟩
abbrev cX4_here : ByteArray := prog_1_method_8_code
def yX4_here : MethodName := ⟨RX4, "here", "(IZ)I"⟩
abbrev cX4_voices : ByteArray := prog_1_method_9_code
def yX4_voices : MethodName := ⟨RX4, "voices", "(II)I"⟩
abbrev cX4_cost : ByteArray := prog_1_method_10_code
def yX4_cost : MethodName := ⟨RX4, "cost", "(I)I"⟩
abbrev cX4_total : ByteArray := prog_1_method_11_code
def yX4_total : MethodName := ⟨RX4, "total", "(I)I"⟩
abbrev cX4_result : ByteArray := prog_1_method_12_code
def yX4_result : MethodName := ⟨RX4, "result", "(I)I"⟩
abbrev cX4_gain : ByteArray := prog_1_method_13_code
def yX4_gain : MethodName := ⟨RX4, "gain", "(I)I"⟩
abbrev cX4_swings : ByteArray := prog_1_method_14_code
def yX4_swings : MethodName := ⟨RX4, "swings", "(I)I"⟩
abbrev cX4_best : ByteArray := prog_1_method_15_code
def yX4_best : MethodName := ⟨RX4, "best", "(I)I"⟩
abbrev cX4_answer : ByteArray := prog_1_method_16_code
def yX4_answer : MethodName := ⟨RX4, "answer", "(II)I"⟩
abbrev cX4_take : ByteArray := prog_1_method_17_code
def yX4_take : MethodName := ⟨RX4, "take", "(I)I"⟩
abbrev cX4_play : ByteArray := prog_1_method_18_code
def yX4_play : MethodName := ⟨RX4, "play", "(I)I"⟩
abbrev cX4_ended : ByteArray := prog_1_method_19_code
def yX4_ended : MethodName := ⟨RX4, "ended", "()I"⟩
abbrev cX4_ring : ByteArray := prog_1_method_20_code
def yX4_ring : MethodName := ⟨RX4, "ring", "()I"⟩
abbrev cX4_gift : ByteArray := prog_1_method_21_code
def yX4_gift : MethodName := ⟨RX4, "gift", "(III)I"⟩
abbrev cX4_bond : ByteArray := prog_1_method_22_code
def yX4_bond : MethodName := ⟨RX4, "bond", "(III)I"⟩
abbrev cX4_matched : ByteArray := prog_1_method_23_code
def yX4_matched : MethodName := ⟨RX4, "matched", "(II)J"⟩
abbrev cX4_share : ByteArray := prog_1_method_24_code
def yX4_share : MethodName := ⟨RX4, "share", "(IJ)J"⟩
abbrev cX4_damped : ByteArray := prog_1_method_25_code
def yX4_damped : MethodName := ⟨RX4, "damped", "(I)J"⟩
abbrev cX4_likeness : ByteArray := prog_1_method_26_code
def yX4_likeness : MethodName := ⟨RX4, "likeness", "(II)I"⟩
abbrev cX4_group : ByteArray := prog_1_method_27_code
def yX4_group : MethodName := ⟨RX4, "group", "(II)I"⟩
abbrev cX4_count : ByteArray := prog_1_method_28_code
def yX4_count : MethodName := ⟨RX4, "count", "(I)I"⟩
abbrev cX4_digest : ByteArray := prog_1_method_29_code
def yX4_digest : MethodName := ⟨RX4, "digest", "()J"⟩
abbrev cX4_isWithin : ByteArray := prog_1_method_30_code
def yX4_isWithin : MethodName := ⟨RX4, "isWithin", "(III)Z"⟩
def RX5 : String := "DearVotesModel"
def TX5 : u_T := fun k => match k with
  | 0 => ("DearVotesModel", "people", "I", false)
  | 1 => ("DearVotesModel", "questions", "I", false)
  | 2 => ("DearVotesModel", "projects", "I", false)
  | 3 => ("DearVotesModel", "seed", "I", false)
  | 4 => ("DearVotesModel", "budgets", "[I", true)
  | 5 => ("DearVotesModel", "isHere", "[Z", true)
  | 6 => ("DearVotesModel", "votes", "[I", true)
  | 7 => ("DearVotesModel", "worths", "[I", true)
  | 8 => ("DearVotesModel", "gifts", "[I", true)
  | 9 => ("DearVotesModel", "bonds", "[I", true)
  | 10 => ("DearVotesModel", "rounds", "I", false)
  | 11 => ("DearVotesModel", "changes", "I", false)
  | 12 => ("DearVotesModel", "ended", "I", false)
  | 13 => ("DearVotesModel", "ring", "I", false)
  | 14 => ("DearVotesModel", "cheapest", "[I", true)
  | 15 => ("DearVotesModel", "may", "[Z", true)
  | 16 => ("DearVotesModel", "bestVoices", "[I", true)
  | 17 => ("DearVotesModel", "tryVoices", "[I", true)
  | 18 => ("DearVotesModel", "bestGain", "I", false)
  | 19 => ("DearVotesModel", "bestCost", "I", false)
  | 20 => ("DearVotesModel", "hasBest", "Z", false)
  | 21 => ("DearVotesModel", "past", "[I", true)
  | 22 => ("DearVotesModel", "parts", "[J", true)
  | 23 => ("DearVotesModel", "rests", "[J", true)
  | _ => ("DearVotesModel", "h", "J", false)
def tyX5 : Nat → FieldType := fun k => match k with
  | 0 => .int
  | 1 => .int
  | 2 => .int
  | 3 => .int
  | 4 => .array .int
  | 5 => .array .boolean
  | 6 => .array .int
  | 7 => .array .int
  | 8 => .array .int
  | 9 => .array .int
  | 10 => .int
  | 11 => .int
  | 12 => .int
  | 13 => .int
  | 14 => .array .int
  | 15 => .array .boolean
  | 16 => .array .int
  | 17 => .array .int
  | 18 => .int
  | 19 => .int
  | 20 => .boolean
  | 21 => .array .int
  | 22 => .array .long
  | 23 => .array .long
  | _ => .long
abbrev wsX50 : List Cond := u_ws RX5 TX5 25
theorem nmX5 : ∀ a, a < 25 → ∀ b, b < 25 → a ≠ b → (TX5 a).2.1 ≠ (TX5 b).2.1 := by decide +kernel
theorem tyX5_ok : ∀ k, k < 25 → parseFieldDescriptor (TX5 k).2.2.1 = some (tyX5 k) := by decide +kernel
abbrev cX5_init : ByteArray := prog_7_method_1_code
def yX5_init : MethodName := ⟨RX5, "<init>", "()V"⟩
abbrev cX5_in : ByteArray := prog_7_method_3_code
def yX5_in : MethodName := ⟨RX5, "in", "(III)Z"⟩
abbrev cX5_isPerson : ByteArray := prog_7_method_4_code
def yX5_isPerson : MethodName := ⟨RX5, "isPerson", "(I)Z"⟩
abbrev cX5_isQuestion : ByteArray := prog_7_method_5_code
def yX5_isQuestion : MethodName := ⟨RX5, "isQuestion", "(I)Z"⟩
abbrev cX5_isProject : ByteArray := prog_7_method_6_code
def yX5_isProject : MethodName := ⟨RX5, "isProject", "(I)Z"⟩
abbrev cX5_person : ByteArray := prog_7_method_7_code
def yX5_person : MethodName := ⟨RX5, "person", "(I)I"⟩
abbrev cX5_question : ByteArray := prog_7_method_8_code
def yX5_question : MethodName := ⟨RX5, "question", "()I"⟩
abbrev cX5_project : ByteArray := prog_7_method_9_code
def yX5_project : MethodName := ⟨RX5, "project", "()I"⟩
abbrev cX5_seed : ByteArray := prog_7_method_10_code
def yX5_seed : MethodName := ⟨RX5, "seed", "(I)I"⟩
abbrev cX5_costOf : ByteArray := prog_7_method_11_code
def yX5_costOf : MethodName := ⟨RX5, "costOf", "(I)I"⟩
abbrev cX5_vote : ByteArray := prog_7_method_12_code
def yX5_vote : MethodName := ⟨RX5, "vote", "(III)I"⟩
abbrev cX5_worth : ByteArray := prog_7_method_13_code
def yX5_worth : MethodName := ⟨RX5, "worth", "(III)I"⟩
abbrev cX5_here : ByteArray := prog_7_method_14_code
def yX5_here : MethodName := ⟨RX5, "here", "(IZ)I"⟩
abbrev cX5_voices : ByteArray := prog_7_method_15_code
def yX5_voices : MethodName := ⟨RX5, "voices", "(II)I"⟩
abbrev cX5_cost : ByteArray := prog_7_method_16_code
def yX5_cost : MethodName := ⟨RX5, "cost", "(I)I"⟩
abbrev cX5_others : ByteArray := prog_7_method_17_code
def yX5_others : MethodName := ⟨RX5, "others", "(II)I"⟩
abbrev cX5_total : ByteArray := prog_7_method_18_code
def yX5_total : MethodName := ⟨RX5, "total", "(I)I"⟩
abbrev cX5_resultOf : ByteArray := prog_7_method_19_code
def yX5_resultOf : MethodName := ⟨RX5, "resultOf", "(II)I"⟩
abbrev cX5_result : ByteArray := prog_7_method_20_code
def yX5_result : MethodName := ⟨RX5, "result", "(I)I"⟩
abbrev cX5_gainBy : ByteArray := prog_7_method_21_code
def yX5_gainBy : MethodName := ⟨RX5, "gainBy", "(II)I"⟩
abbrev cX5_gainOf : ByteArray := prog_7_method_22_code
def yX5_gainOf : MethodName := ⟨RX5, "gainOf", "(I)I"⟩
abbrev cX5_gain : ByteArray := prog_7_method_23_code
def yX5_gain : MethodName := ⟨RX5, "gain", "(I)I"⟩
abbrev cX5_swings : ByteArray := prog_7_method_24_code
def yX5_swings : MethodName := ⟨RX5, "swings", "(I)I"⟩
abbrev cX5_end : ByteArray := prog_7_method_25_code
def yX5_end : MethodName := ⟨RX5, "end", "(II)V"⟩
abbrev cX5_isBetter : ByteArray := prog_7_method_26_code
def yX5_isBetter : MethodName := ⟨RX5, "isBetter", "(II)Z"⟩
abbrev cX5_find : ByteArray := prog_7_method_27_code
def yX5_find : MethodName := ⟨RX5, "find", "(I)V"⟩
abbrev cX5_best : ByteArray := prog_7_method_28_code
def yX5_best : MethodName := ⟨RX5, "best", "(I)I"⟩
abbrev cX5_answer : ByteArray := prog_7_method_29_code
def yX5_answer : MethodName := ⟨RX5, "answer", "(II)I"⟩
abbrev cX5_adopt : ByteArray := prog_7_method_30_code
def yX5_adopt : MethodName := ⟨RX5, "adopt", "(I)V"⟩
abbrev cX5_take : ByteArray := prog_7_method_31_code
def yX5_take : MethodName := ⟨RX5, "take", "(I)I"⟩
abbrev cX5_isAsBehind : ByteArray := prog_7_method_32_code
def yX5_isAsBehind : MethodName := ⟨RX5, "isAsBehind", "(I)Z"⟩
abbrev cX5_keep : ByteArray := prog_7_method_33_code
def yX5_keep : MethodName := ⟨RX5, "keep", "(I)V"⟩
abbrev cX5_play : ByteArray := prog_7_method_34_code
def yX5_play : MethodName := ⟨RX5, "play", "(I)I"⟩
abbrev cX5_ended : ByteArray := prog_7_method_35_code
def yX5_ended : MethodName := ⟨RX5, "ended", "()I"⟩
abbrev cX5_ring : ByteArray := prog_7_method_36_code
def yX5_ring : MethodName := ⟨RX5, "ring", "()I"⟩
abbrev cX5_gift : ByteArray := prog_7_method_37_code
def yX5_gift : MethodName := ⟨RX5, "gift", "(III)I"⟩
abbrev cX5_bond : ByteArray := prog_7_method_38_code
def yX5_bond : MethodName := ⟨RX5, "bond", "(III)I"⟩
abbrev cX5_root : ByteArray := prog_7_method_39_code
def yX5_root : MethodName := ⟨RX5, "root", "(J)J"⟩
abbrev cX5_matchedOf : ByteArray := prog_7_method_40_code
def yX5_matchedOf : MethodName := ⟨RX5, "matchedOf", "(IIZ)J"⟩
abbrev cX5_matched : ByteArray := prog_7_method_41_code
def yX5_matched : MethodName := ⟨RX5, "matched", "(II)J"⟩
abbrev cX5_share : ByteArray := prog_7_method_42_code
def yX5_share : MethodName := ⟨RX5, "share", "(IJ)J"⟩
abbrev cX5_damped : ByteArray := prog_7_method_43_code
def yX5_damped : MethodName := ⟨RX5, "damped", "(I)J"⟩
abbrev cX5_likenessOf : ByteArray := prog_7_method_44_code
def yX5_likenessOf : MethodName := ⟨RX5, "likenessOf", "(II)I"⟩
abbrev cX5_likeness : ByteArray := prog_7_method_45_code
def yX5_likeness : MethodName := ⟨RX5, "likeness", "(II)I"⟩
abbrev cX5_group : ByteArray := prog_7_method_46_code
def yX5_group : MethodName := ⟨RX5, "group", "(II)I"⟩
abbrev cX5_count : ByteArray := prog_7_method_47_code
def yX5_count : MethodName := ⟨RX5, "count", "(I)I"⟩
abbrev cX5_mix : ByteArray := prog_7_method_48_code
def yX5_mix : MethodName := ⟨RX5, "mix", "(J)V"⟩
abbrev cX5_digest : ByteArray := prog_7_method_49_code
def yX5_digest : MethodName := ⟨RX5, "digest", "()J"⟩
def RL : String := "DearVotesLaw"
abbrev cL_law : ByteArray := code
def yL_law : MethodName := ⟨RL, "law", "([I)Z"⟩
abbrev vwCl : List vw_C := [(RX0, TX0, 5), (RX1, TX1, 7), (RX2, TX2, 7), (RX3, TX3, 10), (RX4, TX4, 4), (RX5, TX5, 25)]

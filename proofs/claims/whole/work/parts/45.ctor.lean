/-! the constructors: what they make, cell after cell, each at its own place after the start -/
def hx_of : List Nat := [0, 1, 30, 49, 82, 110, 2, 3, 4, 17, 31, 32, 39, 46, 47, 48, 50, 83, 96, 109, 111, 112, 113, 114, 115, 116, 117, 118, 119, 120, 121, 122, 123, 5, 6, 7, 8, 9, 10, 11, 12, 13, 14, 15, 16, 18, 19, 20, 21, 22, 23, 24, 25, 26, 27, 28, 29, 33, 34, 35, 36, 37, 38, 40, 41, 42, 43, 44, 45, 51, 52, 53, 54, 55, 56, 57, 58, 59, 60, 61, 62, 63, 64, 65, 66, 67, 68, 69, 70, 71, 72, 73, 74, 75, 76, 77, 78, 79, 80, 81, 84, 85, 86, 87, 88, 89, 90, 91, 92, 93, 94, 95, 97, 98, 99, 100, 101, 102, 103, 104, 105, 106, 107, 108]
def adh (h : Nat) (k : Nat) : Nat := h + hx_of.getD k 0
def hx_or : List Nat := [0, 1, 6, 7, 8, 33, 34, 35, 36, 37, 38, 39, 40, 41, 42, 43, 44, 9, 45, 46, 47, 48, 49, 50, 51, 52, 53, 54, 55, 56, 2, 10, 11, 57, 58, 59, 60, 61, 62, 12, 63, 64, 65, 66, 67, 68, 13, 14, 15, 3, 16, 69, 70, 71, 72, 73, 74, 75, 76, 77, 78, 79, 80, 81, 82, 83, 84, 85, 86, 87, 88, 89, 90, 91, 92, 93, 94, 95, 96, 97, 98, 99, 4, 17, 100, 101, 102, 103, 104, 105, 106, 107, 108, 109, 110, 111, 18, 112, 113, 114, 115, 116, 117, 118, 119, 120, 121, 122, 123, 19, 5, 20, 21, 22, 23, 24, 25, 26, 27, 28, 29, 30, 31, 32]
theorem adh_inj (h : Nat) : hx_inj (adh h) := fun i j hi hj e => by
  have t : ∀ a, a < 124 → hx_or.getD (hx_of.getD a 0) 0 = a := by decide +kernel
  unfold adh at e
  have e2 : hx_of.getD i 0 = hx_of.getD j 0 := by omega
  rw [← t i hi, ← t j hj, e2]
/-- the cells of a list of places -/
def hks (h : Nat) (cy : Nat → ClassId) (I : MI) (J : MJ) (ks : List Nat) : va_W := ks.map (fun k => (adh h k, hx_ce (adh h) cy I J k))
theorem hks_app (h : Nat) (cy : Nat → ClassId) (I : MI) (J : MJ) (a b : List Nat) : hks h cy I J (a ++ b) = hks h cy I J a ++ hks h cy I J b := List.map_append
theorem hks_at {h : Nat} {cy : Nat → ClassId} {I : MI} {J : MJ} {ks : List Nat} {j k : Nat} (hj : ks[j]? = some k) : (hks h cy I J ks)[j]? = some (adh h k, hx_ce (adh h) cy I J k) := by
  unfold hks
  rw [List.getElem?_map, hj]
  rfl
/-- the tables' words that no callee's list holds -/
def aoV (U : State) : Prop := (Cond.arrayOver (.array .int)).before #[] U = true ∧ (Cond.arrayOver (.array .long)).before #[] U = true ∧ va_Nw (.methodLinkNest "DearVotes" 9 ⟨"DearVotes$House", "<init>", "()V"⟩ "DearVotes") U
theorem ao_setVm {ty : FieldType} {s U : State} (hW : s.vm.Alike U.vm) (k : (Cond.arrayOver ty).before #[] s = true) : (Cond.arrayOver ty).before #[] U = true := by
  have e := Cond.arrayOver_setVmC (args := #[]) hW ty
  rw [k] at e
  exact e
theorem aoV.calling {U : State} {g : JFrame} {mk : MethodId} {a : Array Value} (h : aoV (U)) (e : (U.calling g mk a).vm = U.vm) : aoV (U.calling g mk a) := ⟨ao_setVm (by rw [e]; exact Vm.Alike.refl U.vm) h.1, ao_setVm (by rw [e]; exact Vm.Alike.refl U.vm) h.2.1, va_Nw.same rfl e.symm h.2.2⟩
theorem aoV.warm {s U : State} (hW : s.WarmedH U.vm) (h : aoV s) : aoV U := ⟨ao_setVm hW.alike h.1, ao_setVm hW.alike h.2.1, va_Nw.warmM hW h.2.2⟩
abbrev HC : Type := Nat → List (Nat × Value) → List Value → va_W → List Nat → va_W → MI → MJ → Nat → Nat → Nat → Prop
/-- ex: the object in the making; ks: the cells that stand; nw: a new object before its constructor; nn cells since the start; ce, sl: this frame's own -/
def hx_C (p : Program) (l : Launch) (e : Env) (R : Room) (s : State) (m : MethodId) (args : Array Value) (below : List Frame) (meth : Method) (c : Code) (D : va_G) (h0 : Nat) (cy : Nat → ClassId) (A : Nat → Prop) (nL : Nat) (Q : State → Prop) : HC := fun pc lv st ex ks nw I J nn ce sl => ∀ (H : Heap) (locs : List Loc) (ls : Array Slot), va_P D vwCl ((ex ++ hks h0 cy I J ks) ++ nw) H → va_D A ((ex ++ hks h0 cy I J ks) ++ nw) → H.size = h0 + nn → va_S A s.heap H locs → lv_has ls nL lv → W p l e R s m args below meth c H locs ce sl Q (F0 m pc ls st)
def Rc (l : Launch) (D : va_G) (h0 : Nat) (cy : Nat → ClassId) (own : String) (cc : ByteArray) (nL : Nat) (ini : Prop) (d rc rs : Nat) (X : HC) : Prop :=
  ∃ (p : Program) (e : Env) (R : Room) (s : State) (m : MethodId) (args : Array Value) (below : List Frame) (meth : Method) (c : Code) (A : Nat → Prop) (Q : State → Prop),
    p.tables.exec = Jvm.exec ∧ c.code = cc ∧ c.maxLocals = nL ∧ s.vm.findClass own = some m.cls ∧ (∀ w ∈ hx_ws, w.before args s = true) ∧ va_K D vwCl (hx_ty cy) s ∧ aoV s ∧ (ini → meth.name = "<init>") ∧ (∀ q, s.heap.size ≤ q → A q) ∧ (d ≤ R.frames ∧ 64 * d ≤ R.locals ∧ rc ≤ R.cells ∧ rs ≤ R.slots) ∧ X = hx_C p l e R s m args below meth c D h0 cy A nL Q

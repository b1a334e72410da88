/-! the choices of a question, in both programs -/
def gZ (c w : Int) : Int := if 0 ≤ c then (if c = 0 then w else 2 * w) else 0
theorem e0 : (0 : Int32).toInt = 0 := by decide
theorem e1 : (1 : Int32).toInt = 1 := by decide
theorem em1 : (-1 : Int32).toInt = -1 := by decide
theorem e2 : (2 : Int32).toInt = 2 := by decide
theorem e40 : (40 : Int32).toInt = 40 := by decide
theorem em40 : (-40 : Int32).toInt = -40 := by decide
theorem ti_2w {w : Int32} (h1 : -1000 ≤ w.toInt) (h2 : w.toInt ≤ 1000) : ((2 : Int32) * w).toInt = 2 * w.toInt := by
  rw [ti_mul (by rw [e2]; omega) (by rw [e2]; omega), e2]
theorem gBy_z {c w : Int32} (h1 : -1000 ≤ w.toInt) (h2 : w.toInt ≤ 1000) : (gByF c w).toInt = gZ c.toInt w.toInt := by
  unfold gByF gZ
  have a : 0 ≤ c ↔ 0 ≤ c.toInt := by rw [Int32.le_iff_toInt_le, e0]
  have b : c = 0 ↔ c.toInt = 0 := by rw [← Int32.toInt_inj, e0]
  by_cases k : 0 ≤ c
  · rw [if_pos k, if_pos (a.mp k)]
    by_cases j : c = 0
    · rw [if_pos j, if_pos (b.mp j)]
    · rw [if_neg j, if_neg (fun z => j (b.mpr z)), ti_2w h1 h2]
  · rw [if_neg k, if_neg (fun z => k (a.mpr z)), e0]
/-- the reference's gain at an end -/
def eZ (w : Int) (e : Nat) : Int := if e = 0 then 2 * w else if e = 1 then w else 0
def cZ (o : Int) (e : Nat) : Int := if e = 0 then (if o ≤ 0 then 1 - o else 0) else if e = 1 then -o else (if 0 ≤ o then -1 - o else 0)
theorem cv_z {o : Int32} {e : Nat} (h1 : -1000 ≤ o.toInt) (h2 : o.toInt ≤ 1000) : (cvF o e).toInt = cZ o.toInt e := by
  unfold cvF cZ
  have a : 0 ≤ o ↔ 0 ≤ o.toInt := by rw [Int32.le_iff_toInt_le, e0]
  have b : o ≤ 0 ↔ o.toInt ≤ 0 := by rw [Int32.le_iff_toInt_le, e0]
  by_cases c : e = 0
  · rw [if_pos c, if_pos c]
    by_cases k : o ≤ 0
    · rw [if_pos k, if_pos (b.mp k), ti_sub (by rw [e1]; omega) (by rw [e1]; omega), e1]
    · rw [if_neg k, if_neg (fun z => k (b.mpr z)), e0]
  · rw [if_neg c, if_neg c]
    by_cases d : e = 1
    · rw [if_pos d, if_pos d, ti_neg (by omega) (by omega)]
    · rw [if_neg d, if_neg d]
      by_cases k : 0 ≤ o
      · rw [if_pos k, if_pos (a.mp k), ti_sub (by rw [em1]; omega) (by rw [em1]; omega), em1]
      · rw [if_neg k, if_neg (fun z => k (a.mpr z)), e0]
/-- a choice of the class, in whole numbers -/
def inA (o w v g : Int) : Prop := (if 0 < w then v = 1 - o ∧ g = 2 * w else v = -1 - o ∧ g = 0) ∧ gZ o w < g ∧ -40 ≤ v ∧ v ≤ 40
def inB (o w v g : Int) : Prop := v = -o ∧ g = w ∧ gZ o w < g ∧ -40 ≤ v ∧ v ≤ 40
def inC (o w v g : Int) : Prop := v = 0 ∧ g = gZ o w
theorem be_z (w : Int32) : (beF w).toInt = if 0 < w.toInt then 1 else -1 := by
  unfold beF
  have a : 0 < w ↔ 0 < w.toInt := by rw [Int32.lt_iff_toInt_lt, e0]
  by_cases k : 0 < w
  · rw [if_pos k, if_pos (a.mp k), e1]
  · rw [if_neg k, if_neg (fun z => k (a.mpr z)), em1]
theorem opA_z {o w : Int32} (h1 : -1000 ≤ o.toInt) (h2 : o.toInt ≤ 1000) (w1 : -1000 ≤ w.toInt) (w2 : w.toInt ≤ 1000) : (∀ x ∈ opA o w, inA o.toInt w.toInt x.1.toInt x.2.toInt) ∧ (∀ v g, inA o.toInt w.toInt v g → ∃ x ∈ opA o w, x.1.toInt = v ∧ x.2.toInt = g) := by
  have hb := be_z w
  have hv : (beF w - o).toInt = (beF w).toInt - o.toInt := ti_sub (by rw [hb]; split <;> omega) (by rw [hb]; split <;> omega)
  have hg : (gByF (beF w) w).toInt = gZ (beF w).toInt w.toInt := gBy_z w1 w2
  have hn : (gByF o w).toInt = gZ o.toInt w.toInt := gBy_z w1 w2
  have hgz : gZ (beF w).toInt w.toInt = if 0 < w.toInt then 2 * w.toInt else 0 := by
    rw [hb]
    by_cases k : 0 < w.toInt
    · rw [if_pos k, if_pos k]
      unfold gZ
      rw [if_pos (by omega), if_neg (by omega)]
    · rw [if_neg k, if_neg k]
      unfold gZ
      rw [if_neg (by omega)]
  have ha : (gByF o w < gByF (beF w) w ∧ ¬ (beF w - o < (-40) ∨ 40 < beF w - o)) ↔ (gZ o.toInt w.toInt < (if 0 < w.toInt then 2 * w.toInt else 0) ∧ -40 ≤ (beF w).toInt - o.toInt ∧ (beF w).toInt - o.toInt ≤ 40) := by
    rw [Int32.lt_iff_toInt_lt, Int32.lt_iff_toInt_lt, Int32.lt_iff_toInt_lt, hg, hn, hgz, hv, em40, e40]
    constructor
    · rintro ⟨q1, q2⟩
      exact ⟨q1, by omega, by omega⟩
    · rintro ⟨q1, q2, q3⟩
      exact ⟨q1, by omega⟩
  have hi : ∀ v g, inA o.toInt w.toInt v g ↔ (v = (beF w).toInt - o.toInt ∧ g = (if 0 < w.toInt then 2 * w.toInt else 0) ∧ gZ o.toInt w.toInt < g ∧ -40 ≤ v ∧ v ≤ 40) := by
    intro v g
    unfold inA
    rw [hb]
    by_cases k : 0 < w.toInt
    · rw [if_pos k, if_pos k, if_pos k]
      constructor
      · rintro ⟨⟨q1, q2⟩, q3, q4, q5⟩; exact ⟨q1, q2, q3, q4, q5⟩
      · rintro ⟨q1, q2, q3, q4, q5⟩; exact ⟨⟨q1, q2⟩, q3, q4, q5⟩
    · rw [if_neg k, if_neg k, if_neg k]
      constructor
      · rintro ⟨⟨q1, q2⟩, q3, q4, q5⟩; exact ⟨q1, q2, q3, q4, q5⟩
      · rintro ⟨q1, q2, q3, q4, q5⟩; exact ⟨⟨q1, q2⟩, q3, q4, q5⟩
  unfold opA
  by_cases c : gByF o w < gByF (beF w) w ∧ ¬ (beF w - o < (-40) ∨ 40 < beF w - o)
  · rw [if_pos c]
    obtain ⟨c1, c2, c3⟩ := ha.mp c
    refine ⟨fun x hx => ?_, fun v g hx => ?_⟩
    · rw [List.mem_singleton] at hx
      subst hx
      rw [hi]
      show (beF w - o).toInt = _ ∧ (gByF (beF w) w).toInt = _ ∧ _ < (gByF (beF w) w).toInt ∧ _ ≤ (beF w - o).toInt ∧ (beF w - o).toInt ≤ _
      rw [hv, hg, hgz]
      exact ⟨rfl, rfl, c1, c2, c3⟩
    · rw [hi] at hx
      obtain ⟨q1, q2, -, -, -⟩ := hx
      exact ⟨_, List.mem_singleton.mpr rfl, hv.trans q1.symm, (hg.trans hgz).trans q2.symm⟩
  · rw [if_neg c]
    refine ⟨fun x hx => absurd hx List.not_mem_nil, fun v g hx => ?_⟩
    rw [hi] at hx
    obtain ⟨q1, q2, q3, q4, q5⟩ := hx
    exact absurd (ha.mpr ⟨by omega, by omega, by omega⟩) c
theorem opB_z {o w : Int32} (h1 : -1000 ≤ o.toInt) (h2 : o.toInt ≤ 1000) (w1 : -1000 ≤ w.toInt) (w2 : w.toInt ≤ 1000) : (∀ x ∈ opB o w, inB o.toInt w.toInt x.1.toInt x.2.toInt) ∧ (∀ v g, inB o.toInt w.toInt v g → ∃ x ∈ opB o w, x.1.toInt = v ∧ x.2.toInt = g) := by
  have hv : (-o).toInt = -o.toInt := ti_neg (by omega) (by omega)
  have hg : (gByF 0 w).toInt = w.toInt := rfl
  have hn : (gByF o w).toInt = gZ o.toInt w.toInt := gBy_z w1 w2
  have ha : (gByF o w < gByF 0 w ∧ ¬ (-o < (-40) ∨ 40 < -o)) ↔ (gZ o.toInt w.toInt < w.toInt ∧ -40 ≤ -o.toInt ∧ -o.toInt ≤ 40) := by
    rw [Int32.lt_iff_toInt_lt, Int32.lt_iff_toInt_lt, Int32.lt_iff_toInt_lt, hg, hn, hv, em40, e40]
    constructor
    · rintro ⟨q1, q2⟩
      exact ⟨q1, by omega, by omega⟩
    · rintro ⟨q1, q2, q3⟩
      exact ⟨q1, by omega⟩
  unfold opB
  by_cases c : gByF o w < gByF 0 w ∧ ¬ (-o < (-40) ∨ 40 < -o)
  · rw [if_pos c]
    obtain ⟨c1, c2, c3⟩ := ha.mp c
    refine ⟨fun x hx => ?_, fun v g hx => ?_⟩
    · rw [List.mem_singleton] at hx
      subst hx
      show (-o).toInt = _ ∧ (gByF 0 w).toInt = _ ∧ _ < (gByF 0 w).toInt ∧ _ ≤ (-o).toInt ∧ (-o).toInt ≤ _
      rw [hv, hg]
      exact ⟨rfl, rfl, c1, c2, c3⟩
    · obtain ⟨q1, q2, -, -, -⟩ := hx
      exact ⟨_, List.mem_singleton.mpr rfl, hv.trans q1.symm, hg.trans q2.symm⟩
  · rw [if_neg c]
    refine ⟨fun x hx => absurd hx List.not_mem_nil, fun v g hx => ?_⟩
    obtain ⟨q1, q2, q3, q4, q5⟩ := hx
    exact absurd (ha.mpr ⟨by omega, by omega, by omega⟩) c
theorem opC_z {o w : Int32} (h1 : -1000 ≤ o.toInt) (h2 : o.toInt ≤ 1000) (w1 : -1000 ≤ w.toInt) (w2 : w.toInt ≤ 1000) : (∀ x ∈ opC o w, inA o.toInt w.toInt x.1.toInt x.2.toInt ∨ inB o.toInt w.toInt x.1.toInt x.2.toInt ∨ inC o.toInt w.toInt x.1.toInt x.2.toInt) ∧ (∀ v g, inA o.toInt w.toInt v g ∨ inB o.toInt w.toInt v g ∨ inC o.toInt w.toInt v g → ∃ x ∈ opC o w, x.1.toInt = v ∧ x.2.toInt = g) := by
  have A := opA_z h1 h2 w1 w2
  have B := opB_z h1 h2 w1 w2
  unfold opC
  refine ⟨fun x hx => ?_, fun v g hx => ?_⟩
  · rcases List.mem_append.mp hx with hx | hx
    · rcases List.mem_append.mp hx with hx | hx
      · exact Or.inl (A.1 x hx)
      · exact Or.inr (Or.inl (B.1 x hx))
    · rw [List.mem_singleton] at hx
      subst hx
      exact Or.inr (Or.inr ⟨e0, gBy_z w1 w2⟩)
  · rcases hx with hx | hx | hx
    · obtain ⟨x, m, q⟩ := A.2 v g hx
      exact ⟨x, List.mem_append_left _ (List.mem_append_left _ m), q⟩
    · obtain ⟨x, m, q⟩ := B.2 v g hx
      exact ⟨x, List.mem_append_left _ (List.mem_append_right _ m), q⟩
    · exact ⟨_, List.mem_append_right _ (List.mem_singleton.mpr rfl), e0.trans hx.1.symm, (gBy_z w1 w2).trans hx.2.symm⟩
/-- the first choice has the greatest gain -/
theorem opC_0 {o w : Int32} (h1 : -1000 ≤ o.toInt) (h2 : o.toInt ≤ 1000) (w1 : -1000 ≤ w.toInt) (w2 : w.toInt ≤ 1000) : ∀ x ∈ opC o w, x.2.toInt ≤ ((opC o w).getD 0 (0, 0)).2.toInt := by
  have A := opA_z h1 h2 w1 w2
  have B := opB_z h1 h2 w1 w2
  have hn : (gByF o w).toInt = gZ o.toInt w.toInt := gBy_z w1 w2
  have hl := opA_len o w
  have hl2 := opB_len o w
  intro x hx
  have hx2 := (opC_z h1 h2 w1 w2).1 x hx
  unfold opC at hx ⊢
  match ha : opA o w, hl with
  | [a], _ =>
    have a1 := A.1 a (by rw [ha]; exact List.mem_singleton.mpr rfl)
    show x.2.toInt ≤ a.2.toInt
    obtain ⟨a2, a3, -⟩ := a1
    have a4 : a.2.toInt = if 0 < w.toInt then 2 * w.toInt else 0 := by
      by_cases k : 0 < w.toInt
      · rw [if_pos k] at a2 ⊢; exact a2.2
      · rw [if_neg k] at a2 ⊢; exact a2.2
    rcases hx2 with b | b | b
    · obtain ⟨b2, -⟩ := b
      have b4 : x.2.toInt = if 0 < w.toInt then 2 * w.toInt else 0 := by
        by_cases k : 0 < w.toInt
        · rw [if_pos k] at b2 ⊢; exact b2.2
        · rw [if_neg k] at b2 ⊢; exact b2.2
      omega
    · have := b.2.1
      rw [a4]
      split <;> omega
    · have := b.2
      omega
  | [], _ =>
    rw [ha, List.nil_append] at hx
    match hb : opB o w, hl2 with
    | [b], _ =>
      have b1 := B.1 b (by rw [hb]; exact List.mem_singleton.mpr rfl)
      show x.2.toInt ≤ b.2.toInt
      rw [hb] at hx
      rcases List.mem_append.mp hx with hx | hx
      · rw [List.mem_singleton] at hx
        subst hx
        exact Int.le_refl _
      · rw [List.mem_singleton] at hx
        subst hx
        have := b1.2.2.1
        show (gByF o w).toInt ≤ b.2.toInt
        omega
    | [], _ =>
      rw [hb, List.nil_append, List.mem_singleton] at hx
      subst hx
      exact Int.le_refl _
/-- each choice is an end of the reference's -/
theorem opt_way {o w v g : Int} (h : inA o w v g ∨ inB o w v g ∨ inC o w v g) : ∃ e, e < 3 ∧ cZ o e = v ∧ eZ w e = g ∧ -40 ≤ v ∧ v ≤ 40 := by
  rcases h with h | h | h
  · obtain ⟨h1, h2, h3, h4⟩ := h
    by_cases k : 0 < w
    · rw [if_pos k] at h1
      have ho : o ≤ 0 := by
        unfold gZ at h2
        by_cases c : 0 ≤ o
        · rw [if_pos c] at h2
          by_cases d : o = 0
          · omega
          · rw [if_neg d] at h2
            omega
        · omega
      refine ⟨0, by omega, ?_, ?_, h3, h4⟩
      · unfold cZ
        rw [if_pos rfl, if_pos ho]
        exact h1.1.symm
      · unfold eZ
        rw [if_pos rfl]
        exact h1.2.symm
    · rw [if_neg k] at h1
      have ho : 0 ≤ o := by
        unfold gZ at h2
        by_cases c : 0 ≤ o
        · exact c
        · rw [if_neg c] at h2
          omega
      refine ⟨2, by omega, ?_, ?_, h3, h4⟩
      · unfold cZ
        rw [if_neg (by omega), if_neg (by omega), if_pos ho]
        exact h1.1.symm
      · unfold eZ
        rw [if_neg (by omega), if_neg (by omega)]
        exact h1.2.symm
  · obtain ⟨h1, h2, -, h3, h4⟩ := h
    refine ⟨1, by omega, ?_, ?_, h3, h4⟩
    · unfold cZ
      rw [if_neg (by omega), if_pos rfl]
      exact h1.symm
    · unfold eZ
      rw [if_neg (by omega), if_pos rfl]
      exact h2.symm
  · obtain ⟨h1, h2⟩ := h
    unfold gZ at h2
    by_cases c : 0 ≤ o
    · rw [if_pos c] at h2
      by_cases d : o = 0
      · rw [if_pos d] at h2
        refine ⟨1, by omega, ?_, ?_, by omega, by omega⟩
        · unfold cZ
          rw [if_neg (by omega), if_pos rfl]
          omega
        · unfold eZ
          rw [if_neg (by omega), if_pos rfl]
          omega
      · rw [if_neg d] at h2
        refine ⟨0, by omega, ?_, ?_, by omega, by omega⟩
        · unfold cZ
          rw [if_pos rfl, if_neg (by omega)]
          omega
        · unfold eZ
          rw [if_pos rfl]
          omega
    · rw [if_neg c] at h2
      refine ⟨2, by omega, ?_, ?_, by omega, by omega⟩
      · unfold cZ
        rw [if_neg (by omega), if_neg (by omega), if_neg c]
        omega
      · unfold eZ
        rw [if_neg (by omega), if_neg (by omega)]
        omega
/-- each end within bounds is a choice, or no voices are as good and cost nothing -/
theorem opt_dom {o w : Int} {e : Nat} (he : e < 3) (h1 : -40 ≤ cZ o e) (h2 : cZ o e ≤ 40) : (inA o w (cZ o e) (eZ w e) ∨ inB o w (cZ o e) (eZ w e) ∨ inC o w (cZ o e) (eZ w e)) ∨ (cZ o e ≠ 0 ∧ eZ w e ≤ gZ o w) := by
  by_cases k : eZ w e ≤ gZ o w
  · by_cases z : cZ o e = 0
    · left; right; right
      refine ⟨z, ?_⟩
      match e, he with
      | 0, _ =>
        have hc : cZ o 0 = if o ≤ 0 then 1 - o else 0 := rfl
        have hz : eZ w 0 = 2 * w := rfl
        rw [hc] at z
        have ho : ¬ o ≤ 0 := fun c => by rw [if_pos c] at z; omega
        unfold gZ
        rw [hz, if_pos (by omega), if_neg (by omega)]
      | 1, _ =>
        have hc : cZ o 1 = -o := rfl
        rw [hc] at z
        unfold gZ
        rw [if_pos (by omega), if_pos (by omega)]
        rfl
      | 2, _ =>
        have hc : cZ o 2 = if 0 ≤ o then -1 - o else 0 := rfl
        rw [hc] at z
        have ho : ¬ 0 ≤ o := fun c => by rw [if_pos c] at z; omega
        unfold gZ
        rw [if_neg ho]
        rfl
    · exact Or.inr ⟨z, k⟩
  · left
    match e, he with
    | 0, _ =>
      left
      have hc : cZ o 0 = if o ≤ 0 then 1 - o else 0 := rfl
      have hz : eZ w 0 = 2 * w := rfl
      have hw : 0 < w := by
        rw [hz] at k
        unfold gZ at k
        by_cases c : 0 ≤ o
        · rw [if_pos c] at k
          by_cases d : o = 0
          · rw [if_pos d] at k; omega
          · rw [if_neg d] at k; omega
        · rw [if_neg c] at k; omega
      have ho : o ≤ 0 := by
        rw [hz] at k
        unfold gZ at k
        by_cases c : 0 ≤ o
        · rw [if_pos c] at k
          by_cases d : o = 0
          · omega
          · rw [if_neg d] at k; omega
        · omega
      rw [hc, if_pos ho] at h1 h2 ⊢
      refine ⟨?_, by omega, h1, h2⟩
      rw [if_pos hw]
      exact ⟨rfl, hz⟩
    | 1, _ =>
      right; left
      exact ⟨rfl, rfl, by omega, h1, h2⟩
    | 2, _ =>
      left
      have hc : cZ o 2 = if 0 ≤ o then -1 - o else 0 := rfl
      have hz : eZ w 2 = 0 := rfl
      rw [hz] at k
      have hw : ¬ 0 < w ∧ 0 ≤ o := by
        unfold gZ at k
        by_cases c : 0 ≤ o
        · rw [if_pos c] at k
          by_cases d : o = 0
          · rw [if_pos d] at k; omega
          · rw [if_neg d] at k; omega
        · rw [if_neg c] at k; omega
      rw [hc, if_pos hw.2] at h1 h2 ⊢
      refine ⟨?_, by omega, h1, h2⟩
      rw [if_neg hw.1]
      exact ⟨rfl, hz⟩

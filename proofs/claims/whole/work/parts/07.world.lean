/-! THE ABSTRACT WORLD: cells have numbers 0, 1, .. (their order of making); a reference to cell k is '.ref k' (k < 1000), to a thing that nobody writes '.ref k' (k from 1000 on) -/
abbrev xE : Type := Nat × (Nat → Nat) × Value × va_G × (Nat → ClassId)
abbrev xS : Type := Nat × (Nat → Int32)
def xa (E : xE) (k : Nat) : Nat := if k < 1000 then E.1 + k else E.2.1 k
def xv (E : xE) : Value → Value
  | .ref k => .ref (xa E k)
  | .float _ => E.2.2.1
  | .int x => .int x
  | .long x => .long x
  | .double x => .double x
  | .null => .null
  | .retAddr k => .retAddr k
abbrev xD : Type := (Nat → Int32) ⊕ (Nat → Int64) ⊕ (Nat → UInt32) ⊕ (Nat → UInt64) ⊕ (Nat → Option Nat)
def xda (E : xE) : xD → xD
  | .inl f => .inl f
  | .inr (.inl f) => .inr (.inl f)
  | .inr (.inr (.inl f)) => .inr (.inr (.inl f))
  | .inr (.inr (.inr (.inl f))) => .inr (.inr (.inr (.inl f)))
  | .inr (.inr (.inr (.inr f))) => .inr (.inr (.inr (.inr (fun j => (f j).map (xa E)))))
def xe (E : xE) : va_E → va_E
  | .inl (t, n, a) => .inl (E.2.2.2.2 t, n, xda E a)
  | .inr (c, fs) => .inr (c, fs.map (xv E))
def xws (E : xE) (h : List va_E) : va_W := h.mapIdx fun k e => (E.1 + k, xe E e)
theorem xws_get {E : xE} {h : List va_E} {k : Nat} {e : va_E} (hk : h[k]? = some e) : (xws E h)[k]? = some (E.1 + k, xe E e) := by
  simp [xws, List.getElem?_mapIdx, hk]
theorem xws_at {E : xE} {h : List va_E} {k : Nat} {q : Nat × va_E} (hk : (xws E h)[k]? = some q) : ∃ e, h[k]? = some e ∧ q = (E.1 + k, xe E e) := by
  simp only [xws, List.getElem?_mapIdx] at hk
  cases he : h[k]? with
  | none => rw [he] at hk; cases hk
  | some e => rw [he] at hk; exact ⟨e, rfl, (Option.some.inj hk).symm⟩
theorem xws_set {E : xE} {h : List va_E} {k : Nat} {e : va_E} : xws E (h.set k e) = (xws E h).set k (E.1 + k, xe E e) := by
  apply List.ext_getElem?
  intro j
  simp only [xws, List.getElem?_mapIdx, List.getElem?_set, List.length_mapIdx]
  by_cases hj : k = j
  · subst hj
    by_cases hl : k < h.length
    · simp [hl]
    · simp [hl]
  · simp [hj]
theorem xws_push {E : xE} {h : List va_E} {e : va_E} : xws E (h ++ [e]) = xws E h ++ [(E.1 + h.length, xe E e)] := by
  simp [xws, List.mapIdx_append]
theorem xws_D (E : xE) (h : List va_E) : va_D (fun q => E.1 ≤ q) (xws E h) := by
  refine ⟨fun i j p q hi hj hpq => ?_, fun k q hk => ?_⟩
  · obtain ⟨e1, -, h1⟩ := xws_at hi
    obtain ⟨e2, -, h2⟩ := xws_at hj
    rw [h1, h2] at hpq
    have : E.1 + i = E.1 + j := hpq
    omega
  · obtain ⟨e1, -, h1⟩ := xws_at hk
    rw [h1]
    exact Nat.le_add_right _ _
theorem xa_lo {E : xE} {k : Nat} (h : k < 1000) : xa E k = E.1 + k := if_pos h
theorem xa_hi {E : xE} {k : Nat} (h : ¬ k < 1000) : xa E k = E.2.1 k := if_neg h
theorem xv_cat {E : xE} (hE : E.2.2.1.category = 1) (v : Value) : (xv E v).category = v.category := by
  cases v <;> first | rfl | exact hE
theorem xv_sum {E : xE} (hE : E.2.2.1.category = 1) (st : List Value) : ((st.map (xv E)).map fun v => v.category).sum = (st.map fun v => v.category).sum := by
  rw [List.map_map]
  congr 1
  apply List.map_congr_left
  intro v _
  exact xv_cat hE v
/-! locals -/
def xL (E : xE) (lc : Array Slot) (nL : Nat) (ls : List (Option Value)) : Prop := lc.size = nL ∧ lv_wf lc ∧ ∀ (i : Nat) (v : Value), ls[i]? = some (some v) → lc[i]? = some (.val (xv E v))
def xpr (E : xE) : Nat → List (Option Value) → List (Nat × Value)
  | _, [] => []
  | j, none :: l => xpr E (j + 1) l
  | j, some w :: l => (j, xv E w) :: xpr E (j + 1) l
theorem xpr_mem {E : xE} : ∀ (l : List (Option Value)) (j : Nat) (q : Nat × Value), q ∈ xpr E j l ↔ ∃ (i : Nat) (w : Value), l[i]? = some (some w) ∧ q = (j + i, xv E w) := by
  intro l
  induction l with
  | nil => intro j q; simp [xpr]
  | cons o l ih =>
    intro j q
    cases o with
    | none =>
      simp only [xpr]
      rw [ih]
      constructor
      · rintro ⟨i, w, h1, h2⟩
        exact ⟨i + 1, w, by simpa using h1, by rw [h2]; congr 1; omega⟩
      · rintro ⟨i, w, h1, h2⟩
        cases i with
        | zero => simp at h1
        | succ i => exact ⟨i, w, by simpa using h1, by rw [h2]; congr 1; omega⟩
    | some v =>
      simp only [xpr, List.mem_cons]
      rw [ih]
      constructor
      · rintro (h | ⟨i, w, h1, h2⟩)
        · exact ⟨0, v, by simp, by rw [h]; rfl⟩
        · exact ⟨i + 1, w, by simpa using h1, by rw [h2]; congr 1; omega⟩
      · rintro ⟨i, w, h1, h2⟩
        cases i with
        | zero =>
          left
          have : v = w := by simpa using h1
          subst this
          exact h2
        | succ i => exact Or.inr ⟨i, w, by simpa using h1, by rw [h2]; congr 1; omega⟩
theorem xL.has {E : xE} {lc : Array Slot} {nL : Nat} {ls : List (Option Value)} (h : xL E lc nL ls) : lv_has lc nL (xpr E 0 ls) := by
  refine ⟨h.1, h.2.1, fun q hq => ?_⟩
  obtain ⟨i, w, h1, h2⟩ := (xpr_mem ls 0 q).mp hq
  rw [h2]
  simpa using h.2.2 i w h1
def xcl1 : Option Value → Option Value
  | some (.long _) => none
  | some (.double _) => none
  | o => o
/-- a word is put at place i -/
def xst : List (Option Value) → Nat → Value → List (Option Value)
  | [], _, _ => []
  | _ :: l, 0, v => some v :: l
  | o :: l, 1, v => xcl1 o :: xst l 0 v
  | o :: l, i + 2, v => o :: xst l (i + 1) v
def xn1 : List (Option Value) → List (Option Value)
  | [] => []
  | _ :: l => none :: l
/-- a double word is put at place i -/
def xst2 : List (Option Value) → Nat → Value → List (Option Value)
  | [], _, _ => []
  | _ :: l, 0, v => some v :: xn1 l
  | o :: l, 1, v => xcl1 o :: xst2 l 0 v
  | o :: l, i + 2, v => o :: xst2 l (i + 1) v
theorem xcl1_some {o : Option Value} {w : Value} (h : xcl1 o = some w) : o = some w ∧ ¬ w.category = 2 := by
  cases o with
  | none => cases h
  | some v => cases v <;> first | (cases h; done) | (simp only [xcl1] at h; refine ⟨h, ?_⟩; cases h; simp [Value.category])
theorem xst_get : ∀ (ls : List (Option Value)) (i : Nat) (v : Value) (j : Nat) (w : Value), (xst ls i v)[j]? = some (some w) → (j = i ∧ w = v) ∨ (j ≠ i ∧ ls[j]? = some (some w) ∧ ¬ (j + 1 = i ∧ w.category = 2)) := by
  intro ls
  induction ls with
  | nil => intro i v j w h; simp [xst] at h
  | cons o l ih =>
    intro i v j w h
    match i with
    | 0 =>
      cases j with
      | zero => left; simp [xst] at h; exact ⟨rfl, h.symm⟩
      | succ j => right; simp [xst] at h; exact ⟨by omega, by simpa using h, by omega⟩
    | 1 =>
      cases j with
      | zero =>
        right
        simp [xst] at h
        obtain ⟨h1, h2⟩ := xcl1_some h
        exact ⟨by omega, by simpa using h1, fun q => h2 q.2⟩
      | succ j =>
        simp only [xst, List.getElem?_cons_succ] at h
        rcases ih 0 v j w h with ⟨a, b⟩ | ⟨a, b, c⟩
        · left; exact ⟨by omega, b⟩
        · right; exact ⟨by omega, by simpa using b, by omega⟩
    | i + 2 =>
      cases j with
      | zero => right; simp [xst] at h; exact ⟨by omega, by simpa using h, by omega⟩
      | succ j =>
        simp only [xst, List.getElem?_cons_succ] at h
        rcases ih (i + 1) v j w h with ⟨a, b⟩ | ⟨a, b, c⟩
        · left; exact ⟨by omega, b⟩
        · right; exact ⟨by omega, by simpa using b, fun q => c ⟨by omega, q.2⟩⟩
theorem xst2_get : ∀ (ls : List (Option Value)) (i : Nat) (v : Value) (j : Nat) (w : Value), (xst2 ls i v)[j]? = some (some w) → (j = i ∧ w = v) ∨ (j ≠ i ∧ j ≠ i + 1 ∧ ls[j]? = some (some w) ∧ ¬ (j + 1 = i ∧ w.category = 2)) := by
  intro ls
  induction ls with
  | nil => intro i v j w h; simp [xst2] at h
  | cons o l ih =>
    intro i v j w h
    match i with
    | 0 =>
      cases j with
      | zero => left; simp [xst2] at h; exact ⟨rfl, h.symm⟩
      | succ j =>
        right
        simp only [xst2, List.getElem?_cons_succ] at h
        cases l with
        | nil => simp [xn1] at h
        | cons o2 l2 =>
          cases j with
          | zero => simp [xn1] at h
          | succ j => simp [xn1] at h; exact ⟨by omega, by omega, by simpa using h, by omega⟩
    | 1 =>
      cases j with
      | zero =>
        right
        simp [xst2] at h
        obtain ⟨h1, h2⟩ := xcl1_some h
        exact ⟨by omega, by omega, by simpa using h1, fun q => h2 q.2⟩
      | succ j =>
        simp only [xst2, List.getElem?_cons_succ] at h
        rcases ih 0 v j w h with ⟨a, b⟩ | ⟨a, a2, b, c⟩
        · left; exact ⟨by omega, b⟩
        · right; exact ⟨by omega, by omega, by simpa using b, by omega⟩
    | i + 2 =>
      cases j with
      | zero => right; simp [xst2] at h; exact ⟨by omega, by omega, by simpa using h, by omega⟩
      | succ j =>
        simp only [xst2, List.getElem?_cons_succ] at h
        rcases ih (i + 1) v j w h with ⟨a, b⟩ | ⟨a, a2, b, c⟩
        · left; exact ⟨by omega, b⟩
        · right; exact ⟨by omega, by omega, by simpa using b, fun q => c ⟨by omega, q.2⟩⟩
theorem xL.st {E : xE} {lc : Array Slot} {nL : Nat} {ls : List (Option Value)} {i : Nat} {v : Value} (hE : E.2.2.1.category = 1) (h : lv_has lc nL ((i, xv E v) :: (xpr E 0 ls).filter (fun q => !(q.1 == i) && !(q.1 + 1 == i && q.2.category == 2)))) : xL E lc nL (xst ls i v) := by
  refine ⟨h.1, h.2.1, fun j w hw => ?_⟩
  rcases xst_get ls i v j w hw with ⟨a, b⟩ | ⟨a, b, c⟩
  · rw [a, b]
    exact h.2.2 _ List.mem_cons_self
  · refine h.2.2 (j, xv E w) (List.mem_cons_of_mem _ (List.mem_filter.mpr ⟨(xpr_mem ls 0 _).mpr ⟨j, w, b, by simp⟩, ?_⟩))
    simp only [xv_cat hE]
    have : ¬ (j + 1 = i ∧ w.category = 2) := c
    simp only [Bool.and_eq_true, Bool.not_eq_true', beq_eq_false_iff_ne, ne_eq, Bool.and_eq_false_iff]
    refine ⟨a, ?_⟩
    by_cases h1 : j + 1 = i
    · right; exact fun q => this ⟨h1, q⟩
    · left; exact h1
theorem xL.st2 {E : xE} {lc : Array Slot} {nL : Nat} {ls : List (Option Value)} {i : Nat} {v : Value} (hE : E.2.2.1.category = 1) (h : lv_has lc nL ((i, xv E v) :: (xpr E 0 ls).filter (fun q => !(q.1 == i) && (!(q.1 == i + 1) && !(q.1 + 1 == i && q.2.category == 2))))) : xL E lc nL (xst2 ls i v) := by
  refine ⟨h.1, h.2.1, fun j w hw => ?_⟩
  rcases xst2_get ls i v j w hw with ⟨a, b⟩ | ⟨a, a2, b, c⟩
  · rw [a, b]
    exact h.2.2 _ List.mem_cons_self
  · refine h.2.2 (j, xv E w) (List.mem_cons_of_mem _ (List.mem_filter.mpr ⟨(xpr_mem ls 0 _).mpr ⟨j, w, b, by simp⟩, ?_⟩))
    simp only [xv_cat hE]
    have : ¬ (j + 1 = i ∧ w.category = 2) := c
    simp only [Bool.and_eq_true, Bool.not_eq_true', beq_eq_false_iff_ne, ne_eq, Bool.and_eq_false_iff]
    refine ⟨a, a2, ?_⟩
    by_cases h1 : j + 1 = i
    · right; exact fun q => this ⟨h1, q⟩
    · left; exact h1
/-- the locals with which a method begins -/
def xen : List Value → List (Option Value)
  | [] => []
  | .long x :: l => some (.long x) :: none :: xen l
  | .double x :: l => some (.double x) :: none :: xen l
  | .int x :: l => some (.int x) :: xen l
  | .ref x :: l => some (.ref x) :: xen l
  | .null :: l => some .null :: xen l
  | .float x :: l => some (.float x) :: xen l
  | .retAddr x :: l => some (.retAddr x) :: xen l
def xent (av : List Value) (nL : Nat) : List (Option Value) := xen av ++ List.replicate (nL - (xen av).length) none
theorem xen_args {E : xE} (hE : E.2.2.1.category = 1) : ∀ (av : List Value) (b i : Nat) (v : Value), (xen av)[i]? = some (some v) → (b + i, xv E v) ∈ lv_args b (av.map (xv E)) := by
  intro av
  induction av with
  | nil => intro b i v h; simp [xen] at h
  | cons a l ih =>
    intro b i v h
    have c1 : a.category = 1 → (∀ j w, (xen (a :: l))[j]? = some (some w) → (j = 0 ∧ w = a) ∨ ∃ k, j = k + 1 ∧ (xen l)[k]? = some (some w)) → (b + i, xv E v) ∈ lv_args b ((a :: l).map (xv E)) := by
      intro hc hx
      simp only [List.map_cons, lv_args, xv_cat hE, hc]
      rcases hx i v h with ⟨h1, h2⟩ | ⟨k, h1, h2⟩
      · rw [h1, h2]; exact List.mem_cons_self
      · refine List.mem_cons_of_mem _ ?_
        have := ih (b + 1) k v h2
        rw [h1, show b + (k + 1) = b + 1 + k by omega]
        simpa using this
    have c2 : a.category = 2 → (∀ j w, (xen (a :: l))[j]? = some (some w) → (j = 0 ∧ w = a) ∨ ∃ k, j = k + 2 ∧ (xen l)[k]? = some (some w)) → (b + i, xv E v) ∈ lv_args b ((a :: l).map (xv E)) := by
      intro hc hx
      simp only [List.map_cons, lv_args, xv_cat hE, hc]
      rcases hx i v h with ⟨h1, h2⟩ | ⟨k, h1, h2⟩
      · rw [h1, h2]; exact List.mem_cons_self
      · refine List.mem_cons_of_mem _ ?_
        have := ih (b + 2) k v h2
        rw [h1, show b + (k + 2) = b + 2 + k by omega]
        simpa using this
    have d1 : xen (a :: l) = some a :: xen l → ∀ j w, (xen (a :: l))[j]? = some (some w) → (j = 0 ∧ w = a) ∨ ∃ k, j = k + 1 ∧ (xen l)[k]? = some (some w) := by
      intro he j w hw
      rw [he] at hw
      cases j with
      | zero => left; simp at hw; exact ⟨rfl, hw.symm⟩
      | succ j => right; exact ⟨j, rfl, by simpa using hw⟩
    have d2 : xen (a :: l) = some a :: none :: xen l → ∀ j w, (xen (a :: l))[j]? = some (some w) → (j = 0 ∧ w = a) ∨ ∃ k, j = k + 2 ∧ (xen l)[k]? = some (some w) := by
      intro he j w hw
      rw [he] at hw
      match j with
      | 0 => left; simp at hw; exact ⟨rfl, hw.symm⟩
      | 1 => simp at hw
      | j + 2 => right; exact ⟨j, rfl, by simpa using hw⟩
    cases a <;> first | exact c1 rfl (d1 rfl) | exact c2 rfl (d2 rfl)
theorem xent_get {av : List Value} {nL i : Nat} {v : Value} (h : (xent av nL)[i]? = some (some v)) : (xen av)[i]? = some (some v) := by
  unfold xent at h
  by_cases hi : i < (xen av).length
  · rwa [List.getElem?_append_left hi] at h
  · rw [List.getElem?_append_right (by omega), List.getElem?_replicate] at h
    split at h <;> cases h
theorem xL.entry {E : xE} (hE : E.2.2.1.category = 1) {av : List Value} {nL : Nat} {lc : Array Slot} (h : lv_has lc nL (lv_args 0 (av.map (xv E)))) : xL E lc nL (xent av nL) := by
  refine ⟨h.1, h.2.1, fun i v hv => ?_⟩
  have := h.2.2 _ (xen_args hE av 0 i v (xent_get hv))
  simpa using this

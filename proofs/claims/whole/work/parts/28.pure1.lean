/-! the live numbers of a picture; the class's words look at them alone -/
def lvE (f g : Nat → Int32) : Prop := ∀ k, (k < 5 ∨ (5 ≤ k ∧ k < 5 + 5 * nT f) ∨ (45 ≤ k ∧ k < 45 + 4 * nB f)) → g k = f k
section
variable {f g h : Nat → Int32} {t j n k : Nat} {c x : Int32}
theorem lvE.rf : lvE f f := fun _ _ => rfl
theorem lvE.T (e : lvE f g) : nT g = nT f := by unfold nT; rw [e 3 (by omega)]
theorem lvE.B (e : lvE f g) : nB g = nB f := by unfold nB; rw [e 4 (by omega)]
theorem lvE.sy (e : lvE f g) : lvE g f := fun k hk => (e k (by rw [e.T, e.B] at hk; exact hk)).symm
theorem lvE.tr (e : lvE f g) (e' : lvE g h) : lvE f h := fun k hk => (e' k (by rw [e.T, e.B]; exact hk)).trans (e k hk)
theorem lvE.u (e : lvE f g) (h3 : k ≠ 3) (h4 : k ≠ 4) : lvE (upd f k x) (upd g k x) := by
  intro i hi
  have e3 : nT (upd f k x) = nT f := nT_of (pk_un (Ne.symm h3))
  have e4 : nB (upd f k x) = nB f := nB_of (pk_un (Ne.symm h4))
  rw [e3, e4] at hi
  by_cases q : i = k
  · subst q; rw [pk_us, pk_us]
  · rw [pk_un q, pk_un q]; exact e i hi
theorem lvE.okN (e : lvE f g) (ok : okN f) : okN g := ok.of (e 3 (by omega)) (e 4 (by omega))
theorem lvE.okM (e : lvE f g) (ok : okM f) : okM g := by
  refine ⟨e.okN ok.1, fun j hj => ?_⟩
  rw [e.B] at hj
  rw [e _ (by omega)]; exact ok.2 j hj
theorem sumI_c {a b : Nat → Int32} : ∀ n, (∀ t, t < n → a t = b t) → sumI a n = sumI b n := by
  intro n
  induction n with
  | zero => intro _; rfl
  | succ n ih => intro h; rw [sumI, sumI, ih (fun t ht => h t (by omega)), h n (by omega)]
theorem orI_c {a b : Nat → Int32} : ∀ n, (∀ t, t < n → a t = b t) → orI a n = orI b n := by
  intro n
  induction n with
  | zero => intro _; rfl
  | succ n ih => intro h; rw [orI, orI, ih (fun t ht => h t (by omega)), h n (by omega)]
theorem rC_lv (e : lvE f g) (ht : t < nT f) : rC g t = rC f t := by
  unfold lvE at e; unfold rC; simp (disch := omega) only [e]
theorem gC_lv (e : lvE f g) (ht : t < nT f) : gC g c t = gC f c t := by
  have := rC_lv e ht
  unfold lvE at e; unfold gC mirC; simp (disch := omega) only [e, this]
theorem oC_lv (e : lvE f g) (ht : t < nT f) : oC g c t = oC f c t := by
  have := rC_lv e ht
  unfold lvE at e; unfold oC mirC; simp (disch := omega) only [e, this]
theorem tC_lv (e : lvE f g) (ht : t < nT f) : tC g c t = tC f c t := by
  have := rC_lv e ht
  unfold lvE at e; unfold tC mirC; simp (disch := omega) only [e, this]
theorem bA_lv (e : lvE f g) (hj : j < nB f) : bA g c j = bA f c j := by
  unfold lvE at e; unfold bA; simp (disch := omega) only [e]
theorem sB_lv (e : lvE f g) {w : Nat} (hw : w < 4) (hj : j < nB f) : sB g w j = sB f w j := by
  unfold lvE at e; unfold sB; simp (disch := omega) only [e]
theorem glC_lv (e : lvE f g) : glC g c = glC f c := by
  have e1 := sumI_c (nT f) (fun t ht => gC_lv (c := c) e ht)
  have eT := e.T
  unfold lvE at e; unfold glC rip; simp (disch := omega) only [e, e1, eT]
theorem sgC_lv (e : lvE f g) : sumI (gAC g) 48 = sumI (gAC f) 48 := sumI_c _ (fun t _ => by unfold gAC; exact glC_lv e)
theorem soC_lv (e : lvE f g) : orI (oC g c) (nT g) = orI (oC f c) (nT f) := by rw [e.T]; exact orI_c _ (fun t ht => oC_lv e ht)
theorem stC_lv (e : lvE f g) : sumI (tC g c) (nT g) = sumI (tC f c) (nT f) := by rw [e.T]; exact sumI_c _ (fun t ht => tC_lv e ht)
theorem sbA_lv (e : lvE f g) : orI (bA g c) (nB g) = orI (bA f c) (nB f) := by rw [e.B]; exact orI_c _ (fun t ht => bA_lv e ht)
theorem ssB_lv (e : lvE f g) {w : Nat} (hw : w < 4) : sumI (sB g w) (nB g) = sumI (sB f w) (nB f) := by rw [e.B]; exact sumI_c _ (fun t ht => sB_lv e hw ht)
theorem slA_lv (e : lvE f g) : sumI (lA g) (nT g) = sumI (lA f) (nT f) := by
  rw [e.T]; refine sumI_c _ (fun t ht => ?_)
  unfold lvE at e; unfold lA; simp (disch := omega) only [e]
theorem sdA_lv (e : lvE f g) : orI (dA g) (nT g) = orI (dA f) (nT f) := by
  rw [e.T]; refine orI_c _ (fun t ht => ?_)
  unfold lvE at e; unfold dA; simp (disch := omega) only [e]
theorem tkC_lv (e : lvE f g) (hj : j < nB f) : tkC g j = tkC f j := by
  have e1 := fun c => glC_lv (c := c) e
  unfold lvE at e; unfold tkC; simp (disch := omega) only [e, e1]
theorem itF_lv {st st' : Nat → (Nat → Int32) → (Nat → Int32)} (hs : ∀ t f g, t < n → lvE f g → nT f = k → nB f = j → lvE (st t f) (st' t g) ∧ nT (st t f) = k ∧ nB (st t f) = j) : ∀ m, m ≤ n → ∀ f g, lvE f g → nT f = k → nB f = j → lvE (itF st m f) (itF st' m g) ∧ nT (itF st m f) = k ∧ nB (itF st m f) = j := by
  intro m
  induction m with
  | zero => intro _ f g e h1 h2; exact ⟨e, h1, h2⟩
  | succ m ih =>
    intro hm f g e h1 h2
    obtain ⟨a, b, c⟩ := ih (by omega) f g e h1 h2
    exact hs m _ _ (by omega) a b c
theorem sameM.T {f g : Nat → Int32} (s : sameM f g) : nT g = nT f := nT_of s.2.1
theorem sameM.B {f g : Nat → Int32} (s : sameM f g) : nB g = nB f := nB_of s.2.2.1
theorem dimC_lv (e : lvE f g) (ht : t < nT f) : lvE (dimC c t f) (dimC c t g) := by
  have e1 := rC_lv e ht
  have e2 : g (5 + 5 * t + 1) = f (5 + 5 * t + 1) := e _ (by omega)
  have e3 : g (5 + 5 * t + 3) = f (5 + 5 * t + 3) := e _ (by omega)
  unfold dimC mirC dm1
  rw [e1, e2, e3]
  split
  · exact e.u (by omega) (by omega)
  · exact e
theorem hldC_lv (e : lvE f g) (hj : j < nB f) : lvE (hldC j f) (hldC j g) := by
  have e1 := tkC_lv e hj
  have e2 : g (45 + 4 * j + 2) = f (45 + 4 * j + 2) := e _ (by omega)
  unfold hldC
  rw [e1, e2]
  exact e.u (by omega) (by omega)
theorem ernC_lv (e : lvE f g) (hj : j < nB f) : lvE (ernC f j c) (ernC g j c) := by
  have e2 : g (45 + 4 * j + 3) = f (45 + 4 * j + 3) := e _ (by omega)
  unfold ernC
  rw [e2]
  exact e.u (by omega) (by omega)
theorem tpC_lv (e : lvE f g) (hj : j < nB f) : lvE (tpC j f) (tpC j g) := by
  have e1 := hldC_lv e hj
  have e2 : g (45 + 4 * j) = f (45 + 4 * j) := e _ (by omega)
  unfold tpC
  rw [e2, stC_lv e1]
  exact ernC_lv e1 (by rw [(hldC_s f).B]; exact hj)
theorem takC_lv (e : lvE f g) (h8 : nT f ≤ 8) (hj : j < nB f) : lvE (takC j f) (takC j g) := by
  have e1 := tpC_lv e hj
  have e2 : g (45 + 4 * j) = f (45 + 4 * j) := e _ (by omega)
  unfold takC
  rw [e2, tkC_lv e hj, e1.T]
  split
  · exact (itF_lv (st := dimC (f (45 + 4 * j))) (st' := dimC (f (45 + 4 * j))) (n := nT (tpC j f)) (k := nT (tpC j f)) (j := nB (tpC j f)) (fun t a b ht q q1 q2 => ⟨dimC_lv q (by omega), (dimC_s (by have := (tpC_s (b := j) f).T; omega) a).T.trans q1, (dimC_s (by have := (tpC_s (b := j) f).T; omega) a).B.trans q2⟩) _ (Nat.le_refl _) _ _ e1 rfl rfl).1
  · exact e
theorem slC_lv (e : lvE f g) (hj : j < nB f) : lvE (slC j f) (slC j g) := by
  have e2 : g (45 + 4 * j + 2) = f (45 + 4 * j + 2) := e _ (by omega)
  unfold slC
  rw [e2]
  exact (ernC_lv e hj).u (by omega) (by omega)
theorem brC_lv (e : lvE f g) (ht : t < nT f) : lvE (brC t f) (brC t g) := by
  have e3 : g (5 + 5 * t + 3) = f (5 + 5 * t + 3) := e _ (by omega)
  unfold brC
  rw [e3]
  exact e.u (by omega) (by omega)
theorem h1C_lv (e : lvE f g) (h8 : nT f ≤ 8) : lvE (h1C f) (h1C g) := by
  unfold h1C
  rw [e.B]
  exact (itF_lv (st := takC) (st' := takC) (n := nB f) (k := nT f) (j := nB f) (fun t a b ht q q1 q2 => ⟨takC_lv q (by omega) (by omega), (takC_s a (by omega)).T.trans q1, (takC_s a (by omega)).B.trans q2⟩) _ (Nat.le_refl _) _ _ e rfl rfl).1
theorem h2C_lv (e : lvE f g) : lvE (h2C f) (h2C g) := by
  have e0 : g 0 = f 0 := e _ (by omega)
  unfold h2C
  rw [e.B, e0]
  split
  · exact (itF_lv (st := slC) (st' := slC) (n := nB f) (k := nT f) (j := nB f) (fun t a b ht q q1 q2 => ⟨slC_lv q (by omega), (slC_s a).T.trans q1, (slC_s a).B.trans q2⟩) _ (Nat.le_refl _) _ _ e rfl rfl).1
  · exact e
theorem h3C_lv (e : lvE f g) (h8 : nT f ≤ 8) : lvE (h3C f) (h3C g) := by
  have e0 : g 0 = f 0 := e _ (by omega)
  unfold h3C
  rw [e.T, e0]
  split
  · exact (itF_lv (st := brC) (st' := brC) (n := nT f) (k := nT f) (j := nB f) (fun t a b ht q q1 q2 => ⟨brC_lv q (by omega), (brC_s (by omega) a).T.trans q1, (brC_s (by omega) a).B.trans q2⟩) _ (Nat.le_refl _) _ _ e rfl rfl).1
  · exact e
theorem h4R_lv (e : lvE f g) : lvE (h4R f) (h4R g) := by
  have e0 : g 0 = f 0 := e _ (by omega)
  unfold h4R
  rw [e0]
  exact e.u (by omega) (by omega)
theorem hrC_lv (e : lvE f g) (h8 : nT f ≤ 8) : lvE (hrC f) (hrC g) := by
  unfold hrC
  have s1 := h1C_s h8
  have s2 := h2C_s (h1C f)
  have e2 := h2C_lv (h1C_lv e h8)
  exact h4R_lv (h3C_lv e2 (by rw [s2.T, s1.T]; exact h8))
theorem hrC_T (h8 : nT f ≤ 8) : nT (hrC f) = nT f := by
  have s1 := h1C_s h8
  have s2 := h2C_s (h1C f)
  have s3 := h3C_s (f := h2C (h1C f)) (by rw [s2.T, s1.T]; exact h8)
  unfold hrC h4R
  rw [nT_of (f := h3C (h2C (h1C f))) (pk_un (by decide)), s3.T, s2.T, s1.T]
theorem hrC_B (h8 : nT f ≤ 8) : nB (hrC f) = nB f := by
  have s1 := h1C_s h8
  have s2 := h2C_s (h1C f)
  have s3 := h3C_s (f := h2C (h1C f)) (by rw [s2.T, s1.T]; exact h8)
  unfold hrC h4R
  rw [nB_of (f := h3C (h2C (h1C f))) (pk_un (by decide)), s3.B, s2.B, s1.B]
theorem hsC_lv (e : lvE f g) (h8 : nT f ≤ 8) : lvE (hsC n f) (hsC n g) :=
  (itF_lv (st := fun _ => hrC) (st' := fun _ => hrC) (n := n) (k := nT f) (j := nB f) (fun t a b _ q q1 q2 => ⟨hrC_lv q (by omega), (hrC_T (by omega)).trans q1, (hrC_B (by omega)).trans q2⟩) n (Nat.le_refl _) _ _ e rfl rfl).1
theorem hsC_TB (h8 : nT f ≤ 8) : nT (hsC n f) = nT f ∧ nB (hsC n f) = nB f :=
  (itF_lv (st := fun _ => hrC) (st' := fun _ => hrC) (n := n) (k := nT f) (j := nB f) (fun t a b _ q q1 q2 => ⟨hrC_lv q (by omega), (hrC_T (by omega)).trans q1, (hrC_B (by omega)).trans q2⟩) n (Nat.le_refl _) _ _ (lvE.rf) rfl rfl).2
end

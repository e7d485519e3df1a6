/-! an hour, as the reference does it -/
def itF (st : Nat → (Nat → Int32) → (Nat → Int32)) : Nat → (Nat → Int32) → (Nat → Int32)
  | 0, f => f
  | n + 1, f => st n (itF st n f)
theorem itF_o {st : Nat → (Nat → Int32) → (Nat → Int32)} {j : Nat} : ∀ (n : Nat) (f : Nat → Int32), (∀ t, t < n → ∀ g, st t g j = g j) → itF st n f j = f j := by
  intro n f
  induction n with
  | zero => intro _; rfl
  | succ n ih => intro h; rw [itF, h n (by omega), ih (fun t ht g => h t (by omega) g)]
def tkR (f : Nat → Int32) (b : Nat) : Int32 := cl3 (glR f (f (45 + 4 * b))) 0 (cl3 (f (45 + 4 * b + 1)) 0 (999 - f (45 + 4 * b + 2)))
def payR (f : Nat → Int32) (b : Nat) (c : Int32) : Nat → Int32 := upd f (45 + 4 * b + 3) (cl3 (f (45 + 4 * b + 3) + c) (-99999) 99999)
def dimR (c : Int32) (t : Nat) (f : Nat → Int32) : Nat → Int32 := if mirR f t c then upd f (5 + 5 * t + 3) (cl3 (f (5 + 5 * t + 3) - 1) 0 99) else f
/-- what a boat takes is in its hold -/
def hldR (b : Nat) (f : Nat → Int32) : Nat → Int32 := upd f (45 + 4 * b + 2) (f (45 + 4 * b + 2) + tkR f b)
def tpR (b : Nat) (f : Nat → Int32) : Nat → Int32 := payR (hldR b f) b (-(sumI (tR (hldR b f) (f (45 + 4 * b))) (nT (hldR b f))))
def takR (b : Nat) (f : Nat → Int32) : Nat → Int32 := if tkR f b = 0 then f else itF (dimR (f (45 + 4 * b))) (nT (tpR b f)) (tpR b f)
def slR (b : Nat) (f : Nat → Int32) : Nat → Int32 := upd (payR f b (f (45 + 4 * b + 2))) (45 + 4 * b + 2) 0
def brR (t : Nat) (f : Nat → Int32) : Nat → Int32 := upd f (5 + 5 * t + 3) (cl3 (f (5 + 5 * t + 3) + 1) 0 99)
def h1R (f : Nat → Int32) : Nat → Int32 := itF takR (nB f) f
def h2R (f : Nat → Int32) : Nat → Int32 := if md (f 0) 24 = 20 then itF slR (nB f) f else f
def h3R (f : Nat → Int32) : Nat → Int32 := if md (f 0) 4 = 3 then itF brR (nT f) f else f
def h4R (f : Nat → Int32) : Nat → Int32 := upd f 0 (f 0 + 1)
def hrR (f : Nat → Int32) : Nat → Int32 := h4R (h3R (h2R (h1R f)))
def hsR (n : Nat) (f : Nat → Int32) : Nat → Int32 := itF (fun _ => hrR) n f
def cpF (n : Nat) (f g : Nat → Int32) : Nat → Int32 := fun k => if k < n then f k else g k
/-- what the machine needs of a picture: how many things, boats; where boats are -/
def okM (f : Nat → Int32) : Prop := okN f ∧ ∀ j, j < nB f → 0 ≤ f (45 + 4 * j) ∧ f (45 + 4 * j) ≤ 47
theorem okN.of {f g : Nat → Int32} (ok : okN f) (e3 : g 3 = f 3) (e4 : g 4 = f 4) : okN g := by
  unfold okN nT nB at *
  rw [e3, e4]; exact ok
theorem nT_of {f g : Nat → Int32} (e3 : g 3 = f 3) : nT g = nT f := by unfold nT; rw [e3]
theorem nB_of {f g : Nat → Int32} (e4 : g 4 = f 4) : nB g = nB f := by unfold nB; rw [e4]
/-- the numbers that the machine looks at stay -/
def sameM (f g : Nat → Int32) : Prop := g 0 = f 0 ∧ g 3 = f 3 ∧ g 4 = f 4 ∧ ∀ j, j < 5 → g (45 + 4 * j) = f (45 + 4 * j)
theorem sameM.rf {f : Nat → Int32} : sameM f f := ⟨rfl, rfl, rfl, fun _ _ => rfl⟩
theorem sameM.tr {f g h : Nat → Int32} (a : sameM f g) (b : sameM g h) : sameM f h := ⟨b.1.trans a.1, b.2.1.trans a.2.1, b.2.2.1.trans a.2.2.1, fun j hj => (b.2.2.2 j hj).trans (a.2.2.2 j hj)⟩
theorem okM.of {f g : Nat → Int32} (ok : okM f) (s : sameM f g) : okM g := by
  refine ⟨ok.1.of s.2.1 s.2.2.1, fun j hj => ?_⟩
  rw [nB_of s.2.2.1] at hj
  have h5 := ok.1.2.2.2
  rw [s.2.2.2 j (by omega)]
  exact ok.2 j hj
theorem sameM.upd {f : Nat → Int32} {k : Nat} {x : Int32} (h : (5 ≤ k ∧ k < 45) ∨ (45 ≤ k ∧ k % 4 ≠ 1)) : sameM f (upd f k x) := by
  refine ⟨pk_un (by omega), pk_un (by omega), pk_un (by omega), fun j _ => pk_un (by omega)⟩
theorem sameM.it {st : Nat → (Nat → Int32) → (Nat → Int32)} : ∀ (n : Nat) (f : Nat → Int32), (∀ t, t < n → ∀ g, sameM g (st t g)) → sameM f (itF st n f) := by
  intro n f
  induction n with
  | zero => intro _; exact .rf
  | succ n ih => intro h; rw [itF]; exact (ih (fun t ht g => h t (by omega) g)).tr (h n (by omega) _)
theorem dimR_s {c : Int32} {t : Nat} (ht : t < 8) (f : Nat → Int32) : sameM f (dimR c t f) := by
  unfold dimR; split
  · exact .upd (by omega)
  · exact .rf
theorem payR_s {b : Nat} {c : Int32} (f : Nat → Int32) : sameM f (payR f b c) := .upd (by omega)
theorem hldR_s {b : Nat} (f : Nat → Int32) : sameM f (hldR b f) := .upd (by omega)
theorem tpR_s {b : Nat} (f : Nat → Int32) : sameM f (tpR b f) := (hldR_s f).tr (payR_s _)
theorem takR_s {b : Nat} (f : Nat → Int32) (h8 : nT f ≤ 8) : sameM f (takR b f) := by
  unfold takR; split
  · exact .rf
  · exact (tpR_s f).tr (.it _ _ (fun t ht g => dimR_s (by rw [nT_of (tpR_s f).2.1] at ht; omega) g))
theorem slR_s {b : Nat} (f : Nat → Int32) : sameM f (slR b f) := (payR_s f).tr (.upd (by omega))
theorem brR_s {t : Nat} (ht : t < 8) (f : Nat → Int32) : sameM f (brR t f) := .upd (by omega)
theorem itk_s {f : Nat → Int32} (h8 : nT f ≤ 8) : ∀ n, sameM f (itF takR n f) := by
  intro n
  induction n with
  | zero => exact .rf
  | succ n ih => rw [itF]; exact ih.tr (takR_s _ (by rw [nT_of ih.2.1]; exact h8))
theorem h1R_s {f : Nat → Int32} (h8 : nT f ≤ 8) : sameM f (h1R f) := itk_s h8 _
theorem h2R_s (f : Nat → Int32) : sameM f (h2R f) := by
  unfold h2R; split
  · exact .it _ _ (fun _ _ g => slR_s g)
  · exact .rf
theorem h3R_s {f : Nat → Int32} (h8 : nT f ≤ 8) : sameM f (h3R f) := by
  unfold h3R; split
  · exact .it _ _ (fun t ht g => brR_s (by omega) g)
  · exact .rf
theorem hrR_k {f : Nat → Int32} (h8 : nT f ≤ 8) : hrR f 3 = f 3 ∧ hrR f 4 = f 4 ∧ ∀ j, j < 5 → hrR f (45 + 4 * j) = f (45 + 4 * j) := by
  have s1 := h1R_s h8
  have s2 := s1.tr (h2R_s _)
  have s3 := s2.tr (h3R_s (f := h2R (h1R f)) (by rw [nT_of s2.2.1]; exact h8))
  have u : ∀ k : Nat, k ≠ 0 → hrR f k = h3R (h2R (h1R f)) k := fun k hk => by unfold hrR h4R; exact pk_un hk
  exact ⟨(u 3 (by omega)).trans s3.2.1, (u 4 (by omega)).trans s3.2.2.1, fun j hj => (u _ (by omega)).trans (s3.2.2.2 j hj)⟩
theorem hrR_ok {f : Nat → Int32} (ok : okM f) : okM (hrR f) := by
  obtain ⟨k3, k4, kj⟩ := hrR_k ok.1.2.1
  refine ⟨ok.1.of k3 k4, fun j hj => ?_⟩
  rw [nB_of k4] at hj
  have h5 := ok.1.2.2.2
  rw [kj j (by omega)]
  exact ok.2 j hj
theorem hsR_ok {f : Nat → Int32} (ok : okM f) : ∀ n, okM (hsR n f) := by
  intro n
  induction n with
  | zero => exact ok
  | succ n ih => exact hrR_ok ih
theorem cpF_0 {f g : Nat → Int32} : cpF 0 f g = g := by funext k; simp [cpF]
theorem cpF_s {n : Nat} {f g : Nat → Int32} : cpF (n + 1) f g = upd (cpF n f g) n (f n) := by
  funext k
  by_cases hk : k = n
  · subst hk; simp [cpF, upd]
  · by_cases h2 : k < n
    · rw [pk_un hk]; unfold cpF; rw [if_pos (by omega), if_pos h2]
    · rw [pk_un hk]; unfold cpF; rw [if_neg (by omega), if_neg h2]

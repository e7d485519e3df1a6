/-! tokens: (type, first byte, behind it, value); types: 0 end, 1 word, 2 number, 3 sign, 5 other -/
abbrev Tk : Type := Nat × Nat × Nat × Nat
def ty1 (x : Int32) : Nat := if 97 ≤ x ∧ x ≤ 122 then 1 else if 48 ≤ x ∧ x ≤ 57 then 2 else if x = 59 then 3 else if x = 32 then 4 else 5
def tyA (b : Nat → Int32) (L a : Nat) : Nat := if a < L then ty1 (b a) else 0
/-- behind the bytes of a type, k at most, from a on -/
def scn (b : Nat → Int32) (T : Nat) : Nat → Nat → Nat
  | 0, a => a
  | k + 1, a => if ty1 (b a) = T then scn b T k (a + 1) else a
def dg (x : Int32) : Nat := ix (x - 48)
def vl (b : Nat → Int32) : Nat → Nat → Nat → Nat
  | 0, _, v => v
  | k + 1, a, v => if ty1 (b a) = 2 then vl b k (a + 1) (if 999 < v then v else 10 * v + dg (b a)) else v
def tkE (b : Nat → Int32) (L s t : Nat) : Nat := if t = 1 then scn b 1 (L - s) s else if t = 2 then scn b 2 (L - s) s else if t = 0 then s else s + 1
def tkV (b : Nat → Int32) (L s t : Nat) : Nat := if t = 2 then vl b (L - s) s 0 else 0
def tkS (b : Nat → Int32) (L s : Nat) : Tk := (tyA b L s, s, tkE b L s (tyA b L s), tkV b L s (tyA b L s))
def tok (b : Nat → Int32) (L a : Nat) : Tk := tkS b L (scn b 4 (L - a) a)
def nx (b : Nat → Int32) (L : Nat) (t : Tk) : Tk := tok b L t.2.2.1
theorem ty1_le (x : Int32) : 1 ≤ ty1 x ∧ ty1 x ≤ 5 := by
  unfold ty1; (repeat' split) <;> omega
theorem scn_r {b : Nat → Int32} {T : Nat} : ∀ k a, a ≤ scn b T k a ∧ scn b T k a ≤ a + k := by
  intro k
  induction k with
  | zero => intro a; exact ⟨Nat.le_refl _, Nat.le_refl _⟩
  | succ k ih =>
    intro a
    rw [scn]
    split
    · have := ih (a + 1); omega
    · omega
theorem scn_st {b : Nat → Int32} {T : Nat} : ∀ k a, scn b T k a < a + k → ¬ ty1 (b (scn b T k a)) = T := by
  intro k
  induction k with
  | zero => intro a h; exact absurd h (by rw [scn]; omega)
  | succ k ih =>
    intro a h
    rw [scn] at h ⊢
    split
    · rename_i q
      rw [if_pos q] at h
      exact ih (a + 1) (by omega)
    · assumption
theorem scn_in {b : Nat → Int32} {T : Nat} : ∀ k a i, a ≤ i → i < scn b T k a → ty1 (b i) = T := by
  intro k
  induction k with
  | zero => intro a i h1 h2; rw [scn] at h2; omega
  | succ k ih =>
    intro a i h1 h2
    rw [scn] at h2
    split at h2
    · rename_i q
      by_cases e : i = a
      · rw [e]; exact q
      · exact ih (a + 1) i (by omega) h2
    · omega
theorem dg_le {x : Int32} (h : ty1 x = 2) : x - 48 = nI (dg x) ∧ dg x ≤ 9 := by
  have h2 : 48 ≤ x ∧ x ≤ 57 := by
    unfold ty1 at h
    split at h
    · omega
    · split at h
      · assumption
      · split at h
        · omega
        · split at h <;> omega
  obtain ⟨j, hj, rfl⟩ := rngN (a := 57) (x := x) (n := 57) ⟨Int32.le_trans (by decide) h2.1, h2.2⟩ (by decide)
  have hj2 : 48 ≤ j := by
    have := h2.1
    rwa [show (48 : Int32) = nI 48 from rfl, nI_leI (by omega) (by omega)] at this
  have e : nI j - 48 = nI (j - 48) := pk_sub (b := 48) hj2
  unfold dg ix
  rw [e, nI_clamp (by omega)]
  exact ⟨rfl, by omega⟩
theorem vl_le {b : Nat → Int32} : ∀ k a v, v ≤ 9999 → vl b k a v ≤ 9999 := by
  intro k
  induction k with
  | zero => intro a v h; exact h
  | succ k ih =>
    intro a v h
    rw [vl]
    split
    · rename_i q
      have := (dg_le q).2
      refine ih _ _ ?_
      split <;> omega
    · exact h
/-- what a token is -/
def okT (b : Nat → Int32) (L : Nat) (t : Tk) : Prop := t.2.1 ≤ t.2.2.1 ∧ t.2.2.1 ≤ L ∧ t.2.2.2 ≤ 9999 ∧ t.1 ≤ 5 ∧ (t.1 = 0 → t.2.1 = L) ∧ (¬ t.1 = 0 → t.2.1 < t.2.2.1) ∧ (t.1 = 1 → ∀ i, t.2.1 ≤ i → i < t.2.2.1 → ty1 (b i) = 1) ∧ ¬ t.1 = 4
theorem tok_ok {b : Nat → Int32} {L a : Nat} (h : a ≤ L) : okT b L (tok b L a) ∧ a ≤ (tok b L a).2.1 := by
  have hs := scn_r (b := b) (T := 4) (L - a) a
  have hst := scn_st (b := b) (T := 4) (L - a) a
  unfold tok
  generalize scn b 4 (L - a) a = s at hs hst
  refine ⟨?_, hs.1⟩
  unfold tkS okT
  simp only
  have ht := ty1_le (b s)
  by_cases e : s < L
  · have ety : tyA b L s = ty1 (b s) := if_pos e
    rw [ety]
    have h4 := hst (by omega)
    refine ⟨?_, ?_, ?_, by omega, by omega, ?_, ?_, h4⟩
    · unfold tkE
      have r1 := scn_r (b := b) (T := 1) (L - s) s
      have r2 := scn_r (b := b) (T := 2) (L - s) s
      (repeat' split) <;> omega
    · unfold tkE
      have r1 := scn_r (b := b) (T := 1) (L - s) s
      have r2 := scn_r (b := b) (T := 2) (L - s) s
      (repeat' split) <;> omega
    · unfold tkV
      split
      · exact vl_le _ _ _ (by omega)
      · omega
    · intro _
      unfold tkE
      obtain ⟨k, hk⟩ : ∃ k, L - s = k + 1 := ⟨L - s - 1, by omega⟩
      split
      · rename_i q
        rw [hk, scn, if_pos q]
        have := scn_r (b := b) (T := 1) k (s + 1)
        omega
      · split
        · rename_i q
          rw [hk, scn, if_pos q]
          have := scn_r (b := b) (T := 2) k (s + 1)
          omega
        · omega
    · intro q i h1 h2
      rw [q] at h2
      exact scn_in (L - s) s i h1 h2
  · have ety : tyA b L s = 0 := if_neg e
    rw [ety]
    have hsL : s = L := by omega
    refine ⟨by unfold tkE; simp, by unfold tkE; simp; omega, by unfold tkV; simp, by omega, fun _ => hsL, fun q => absurd rfl q, fun q => absurd q (by decide), by decide⟩
theorem nx_ok {b : Nat → Int32} {L : Nat} {t : Tk} (h : okT b L t) : okT b L (nx b L t) ∧ t.2.2.1 ≤ (nx b L t).2.1 := tok_ok h.2.1
/-! words -/
abbrev wrd (b : Nat → Int32) (t : Tk) (w : Nat) : Prop := t.1 = 1 ∧ t.2.2.1 - t.2.1 = xln.getD w 0 ∧ al (fun i => b (t.2.1 + i) = (xby.getD w []).getD i 0) (xln.getD w 0) 0 = 1
def wdI (b : Nat → Int32) (t : Tk) : Nat := (srch (wrd b t) 16 0).getD 23
def cd (b : Nat → Int32) (t : Tk) : Nat := if t.1 = 1 then wdI b t else if t.1 = 2 then 20 else if t.1 = 3 then 21 else if t.1 = 0 then 22 else 23
theorem al_1 {P : Nat → Prop} [DecidablePred P] : ∀ k t, al P k t = 1 ↔ ∀ i, t ≤ i → i < t + k → P i := by
  intro k
  induction k with
  | zero => intro t; exact ⟨fun _ i h1 h2 => by omega, fun _ => rfl⟩
  | succ k ih =>
    intro t
    rw [al]
    by_cases q : P t
    · rw [if_pos q, ih]
      constructor
      · intro z i h1 h2
        by_cases e : i = t
        · rw [e]; exact q
        · exact z i (by omega) (by omega)
      · intro z i h1 h2; exact z i (by omega) (by omega)
    · rw [if_neg q]
      exact ⟨fun z => absurd z (by decide), fun z => absurd (z t (by omega) (by omega)) q⟩
theorem srch_some {P : Nat → Prop} [DecidablePred P] : ∀ k t x, srch P k t = some x → P x ∧ t ≤ x ∧ x < t + k := by
  intro k
  induction k with
  | zero => intro t x h; cases h
  | succ k ih =>
    intro t x h
    rw [srch] at h
    split at h
    · rename_i q
      cases h
      exact ⟨q, Nat.le_refl _, by omega⟩
    · obtain ⟨h1, h2, h3⟩ := ih _ _ h
      exact ⟨h1, by omega, by omega⟩
theorem xby_inj : ∀ w, w < 16 → ∀ v, v < 16 → xln.getD w 0 = xln.getD v 0 → (∀ i, i < xln.getD w 0 → (xby.getD w []).getD i 0 = (xby.getD v []).getD i 0) → w = v := by decide
theorem wrd_inj {b : Nat → Int32} {t : Tk} {w v : Nat} (hw : w < 16) (hv : v < 16) (h1 : wrd b t w) (h2 : wrd b t v) : w = v := by
  refine xby_inj w hw v hv (h1.2.1.symm.trans h2.2.1) (fun i hi => ?_)
  have e1 := (al_1 _ _).mp h1.2.2 i (by omega) (by omega)
  have e2 := (al_1 _ _).mp h2.2.2 i (by omega) (by rw [← h2.2.1, h1.2.1]; omega)
  exact e1.symm.trans e2
theorem cd_iff {b : Nat → Int32} {t : Tk} {w : Nat} (hw : w < 16) : wrd b t w ↔ cd b t = w := by
  unfold cd
  constructor
  · intro h
    rw [if_pos h.1]
    unfold wdI
    cases e : srch (wrd b t) 16 0 with
    | none => exact absurd h ((srch_none _ _).mp e w (by omega) (by omega))
    | some x =>
      obtain ⟨z1, z2, z3⟩ := srch_some _ _ _ e
      exact (wrd_inj hw (by omega) h z1).symm
  · intro h
    split at h
    · unfold wdI at h
      cases e : srch (wrd b t) 16 0 with
      | none => rw [e] at h; have h' : 23 = w := h; omega
      | some x =>
        rw [e] at h
        have h' : x = w := h
        obtain ⟨z1, -, -⟩ := srch_some _ _ _ e
        exact h' ▸ z1
    · split at h
      · omega
      · split at h
        · omega
        · split at h <;> omega
theorem wdI_r {b : Nat → Int32} {t : Tk} : wdI b t < 16 ∨ wdI b t = 23 := by
  unfold wdI
  cases e : srch (wrd b t) 16 0 with
  | none => exact Or.inr rfl
  | some x =>
    obtain ⟨-, -, z3⟩ := srch_some _ _ _ e
    exact Or.inl (show x < 16 by omega)
theorem cd_le {b : Nat → Int32} {t : Tk} : cd b t ≤ 23 := by
  unfold cd
  have := wdI_r (b := b) (t := t)
  (repeat' split) <;> omega
theorem cd_20 {b : Nat → Int32} {t : Tk} : cd b t = 20 ↔ t.1 = 2 := by
  unfold cd
  have := wdI_r (b := b) (t := t)
  constructor
  · intro h; (repeat' split at h) <;> omega
  · intro h; rw [if_neg (by omega), if_pos h]
theorem cd_21 {b : Nat → Int32} {t : Tk} : cd b t = 21 ↔ t.1 = 3 := by
  unfold cd
  have := wdI_r (b := b) (t := t)
  constructor
  · intro h; (repeat' split at h) <;> omega
  · intro h; rw [if_neg (by omega), if_neg (by omega), if_pos h]
theorem cd_22 {b : Nat → Int32} {t : Tk} : cd b t = 22 ↔ t.1 = 0 := by
  unfold cd
  have := wdI_r (b := b) (t := t)
  constructor
  · intro h; (repeat' split at h) <;> omega
  · intro h; rw [if_neg (by omega), if_neg (by omega), if_neg (by omega), if_pos h]
/-! items: (1 good, 0 at fault; the token that stands; the picture) -/
def nU (b : Nat → Int32) (L lo hi : Nat) (t : Tk) : Int32 × Tk := if t.1 = 2 ∧ lo ≤ t.2.2.2 ∧ t.2.2.2 ≤ hi then (nI t.2.2.2, nx b L t) else (-1, t)
def nA (b : Nat → Int32) (L w lo hi : Nat) (so : Int32) (t : Tk) : Int32 × Tk := if cd b t = w then nU b L lo hi (nx b L t) else (so, t)
def th4 (b : Nat → Int32) (L : Nat) (k c h l : Int32) (t : Tk) (f : Nat → Int32) : Int32 × Tk × (Nat → Int32) :=
  if (nA b L 9 0 9 1 t).1 = -1 then (0, (nA b L 9 0 9 1 t).2, f) else (1, (nA b L 9 0 9 1 t).2, aT f k c h l (nA b L 9 0 9 1 t).1)
def th3 (b : Nat → Int32) (L : Nat) (k c h : Int32) (t : Tk) (f : Nat → Int32) : Int32 × Tk × (Nat → Int32) :=
  if (nA b L 8 0 99 40 t).1 = -1 then (0, (nA b L 8 0 99 40 t).2, f) else th4 b L k c h (nA b L 8 0 99 40 t).1 (nA b L 8 0 99 40 t).2 f
def th2 (b : Nat → Int32) (L : Nat) (k c : Int32) (t : Tk) (f : Nat → Int32) : Int32 × Tk × (Nat → Int32) :=
  if (nA b L 7 1 6 3 t).1 = -1 then (0, (nA b L 7 1 6 3 t).2, f) else th3 b L k c (nA b L 7 1 6 3 t).1 (nA b L 7 1 6 3 t).2 f
def th1 (b : Nat → Int32) (L : Nat) (k : Int32) (t : Tk) (f : Nat → Int32) : Int32 × Tk × (Nat → Int32) :=
  if (nA b L 6 0 7 (-1) t).1 = -1 then (0, (nA b L 6 0 7 (-1) t).2, f) else th2 b L k (nA b L 6 0 7 (-1) t).1 (nA b L 6 0 7 (-1) t).2 f
def thI (b : Nat → Int32) (L : Nat) (k : Int32) (t : Tk) (f : Nat → Int32) : Int32 × Tk × (Nat → Int32) := if 8 ≤ f 3 then (0, t, f) else th1 b L k (nx b L t) f
def bo2 (b : Nat → Int32) (L : Nat) (c : Int32) (t : Tk) (f : Nat → Int32) : Int32 × Tk × (Nat → Int32) :=
  if (nA b L 11 0 99 10 t).1 = -1 then (0, (nA b L 11 0 99 10 t).2, f) else (1, (nA b L 11 0 99 10 t).2, aB f c (nA b L 11 0 99 10 t).1)
def boI (b : Nat → Int32) (L : Nat) (t : Tk) (f : Nat → Int32) : Int32 × Tk × (Nat → Int32) :=
  if 5 ≤ f 4 then (0, t, f) else if (nU b L 0 47 (nx b L t)).1 = -1 then (0, (nU b L 0 47 (nx b L t)).2, f) else bo2 b L (nU b L 0 47 (nx b L t)).1 (nU b L 0 47 (nx b L t)).2 f
def rpO (on : Nat) (x c : Int32) : Int32 := if on = 1 then x ||| (1 <<< (c &&& 31)) else x &&& ((1 <<< (c &&& 31)) ^^^ (-1))
def rpI (b : Nat → Int32) (L on : Nat) (t : Tk) (f : Nat → Int32) : Int32 × Tk × (Nat → Int32) :=
  if (nU b L 0 7 (nx b L t)).1 = -1 then (0, (nU b L 0 7 (nx b L t)).2, f) else (1, (nU b L 0 7 (nx b L t)).2, upd f 1 (rpO on (f 1) (nU b L 0 7 (nx b L t)).1))
def itI (b : Nat → Int32) (L : Nat) (t : Tk) (f : Nat → Int32) : Int32 × Tk × (Nat → Int32) :=
  if cd b t ≤ 5 then thI b L (nI (cd b t)) t f else if cd b t = 10 then boI b L t f else if cd b t = 12 then rpI b L 1 t f else if cd b t = 13 then rpI b L 0 t f else if cd b t = 14 then (1, nx b L t, upd f 2 1) else if cd b t = 15 then (1, nx b L t, upd f 2 0) else (0, t, f)
/-- the answer, the picture, the token -/
def rdA (b : Nat → Int32) (L : Nat) : Nat → Nat → Tk → (Nat → Int32) → Int32 × (Nat → Int32) × Tk
  | 0, _, t, f => (-1 - nI t.2.1, f, t)
  | k + 1, i, t, f => if (itI b L t f).1 = 0 then (-1 - nI (itI b L t f).2.1.2.1, (itI b L t f).2.2, (itI b L t f).2.1) else if (itI b L t f).2.1.1 = 0 then (nI i, (itI b L t f).2.2, (itI b L t f).2.1) else if (itI b L t f).2.1.1 = 3 then rdA b L k (i + 1) (nx b L (itI b L t f).2.1) (itI b L t f).2.2 else (-1 - nI (itI b L t f).2.1.2.1, (itI b L t f).2.2, (itI b L t f).2.1)
theorem nU_ok {b : Nat → Int32} {L lo hi : Nat} {t : Tk} (h : okT b L t) : okT b L (nU b L lo hi t).2 ∧ t.2.1 ≤ (nU b L lo hi t).2.2.1 := by
  unfold nU; split
  · have := nx_ok h
    exact ⟨this.1, Nat.le_trans h.1 this.2⟩
  · exact ⟨h, Nat.le_refl _⟩
theorem nA_ok {b : Nat → Int32} {L w lo hi : Nat} {so : Int32} {t : Tk} (h : okT b L t) : okT b L (nA b L w lo hi so t).2 ∧ t.2.1 ≤ (nA b L w lo hi so t).2.2.1 := by
  unfold nA; split
  · have := nx_ok h
    have h2 := nU_ok (lo := lo) (hi := hi) this.1
    exact ⟨h2.1, Nat.le_trans h.1 (Nat.le_trans this.2 h2.2)⟩
  · exact ⟨h, Nat.le_refl _⟩
theorem nU_n {b : Nat → Int32} {L lo hi : Nat} {t : Tk} (h9 : hi ≤ 99) : (nU b L lo hi t).1 = -1 ∨ ∃ v, lo ≤ v ∧ v ≤ hi ∧ (nU b L lo hi t).1 = nI v := by
  unfold nU; split
  · rename_i q; exact Or.inr ⟨_, q.2.1, q.2.2, rfl⟩
  · exact Or.inl rfl
theorem nA_n {b : Nat → Int32} {L w lo hi : Nat} {so : Int32} {t : Tk} (h9 : hi ≤ 99) (hs : so = -1 ∨ ∃ v, lo ≤ v ∧ v ≤ hi ∧ so = nI v) : (nA b L w lo hi so t).1 = -1 ∨ ∃ v, lo ≤ v ∧ v ≤ hi ∧ (nA b L w lo hi so t).1 = nI v := by
  unfold nA; split
  · exact nU_n h9
  · exact hs
/-- the class's reader with a token -/
def oK (o : xO) (t : Tk) : xO := (o.1, o.2.1, o.2.2.1, o.2.2.2.1, nI t.1, nI t.2.1, nI t.2.2.1, nI (min t.2.2.2 1000), o.2.2.2.2.2.2.2.2)
/-- the reference's -/
def qK (q : xQ) (t : Tk) : xQ := (q.1, q.2.1, q.2.2.1, q.2.2.2.1, q.2.2.2.2.1, q.2.2.2.2.2.1, q.2.2.2.2.2.2.1, nI (cd q.2.2.2.2.2.1 t), nI t.2.1, nI t.2.2.1, nI t.2.2.2, q.2.2.2.2.2.2.2.2.2.2.2)
def qD (q : xQ) (x : Int32) : xQ := (q.1, q.2.1, q.2.2.1, q.2.2.2.1, q.2.2.2.2.1, q.2.2.2.2.2.1, q.2.2.2.2.2.2.1, q.2.2.2.2.2.2.2.1, q.2.2.2.2.2.2.2.2.1, q.2.2.2.2.2.2.2.2.2.1, q.2.2.2.2.2.2.2.2.2.2.1, x, q.2.2.2.2.2.2.2.2.2.2.2.2)
theorem tok_sk {b : Nat → Int32} {L a : Nat} (h : a < L) (h4 : ty1 (b a) = 4) : tok b L a = tok b L (a + 1) := by
  unfold tok
  obtain ⟨k, hk⟩ : ∃ k, L - a = k + 1 := ⟨L - a - 1, by omega⟩
  rw [hk, scn, if_pos h4, show L - (a + 1) = k by omega]
theorem tok_no {b : Nat → Int32} {L a : Nat} (h4 : a < L → ¬ ty1 (b a) = 4) : tok b L a = tkS b L a := by
  unfold tok
  by_cases h : a < L
  · obtain ⟨k, hk⟩ : ∃ k, L - a = k + 1 := ⟨L - a - 1, by omega⟩
    rw [hk, scn, if_neg (h4 h)]
  · rw [show L - a = 0 by omega, scn]
theorem tyA_5 {b : Nat → Int32} {L a : Nat} (h4 : a < L → ¬ ty1 (b a) = 4) : tyA b L a = 0 ∨ tyA b L a = 1 ∨ tyA b L a = 2 ∨ tyA b L a = 3 ∨ tyA b L a = 5 := by
  unfold tyA
  split
  · have := ty1_le (b a)
    have := h4 (by assumption)
    omega
  · exact Or.inl rfl
theorem by_ok : ∀ w, w < 16 → ∀ i, i < xln.getD w 0 → (Int32.toUInt32 ((xby.getD w []).getD i 0 &&& 255) % 65536).toInt32 = (xby.getD w []).getD i 0 := by decide
theorem ln_ok : ∀ w, w < 16 → xln.getD w 0 ≤ 7 ∧ 1 ≤ xln.getD w 0 := by decide
theorem mn_v {v x : Nat} (hx : x ≤ 9) : (if 1000 < nI (10 * min v 1000 + x) then 1000 else nI (10 * min v 1000 + x)) = nI (min (if 999 < v then v else 10 * v + x) 1000) := by
  have e : (1000 : Int32) = nI 1000 := rfl
  rw [e]
  by_cases q : 1000 < 10 * min v 1000 + x
  · rw [if_pos (nI_lt q (by omega))]
    congr 1
    split <;> omega
  · rw [if_neg (nI_nlt (by omega) (by omega))]
    congr 1
    split <;> omega
theorem vl_s {v x : Nat} (hx : x ≤ 9) : min (10 * min v 1000 + x) 1000 = min (if 999 < v then v else 10 * v + x) 1000 := by
  split <;> omega

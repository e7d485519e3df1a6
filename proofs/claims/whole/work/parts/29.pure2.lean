/-! ranges; on them the reference's words are the class's -/
def okP (f : Nat → Int32) : Prop := okM f ∧ (∀ t, t < nT f → (0 ≤ f (5 + 5 * t) ∧ f (5 + 5 * t) ≤ 5) ∧ (1 ≤ f (5 + 5 * t + 2) ∧ f (5 + 5 * t + 2) ≤ 6) ∧ (0 ≤ f (5 + 5 * t + 3) ∧ f (5 + 5 * t + 3) ≤ 99)) ∧ (∀ j, j < nB f → (0 ≤ f (45 + 4 * j + 1) ∧ f (45 + 4 * j + 1) ≤ 99) ∧ (0 ≤ f (45 + 4 * j + 2) ∧ f (45 + 4 * j + 2) ≤ 999))
section
variable {f g h : Nat → Int32} {t j n k : Nat} {c x : Int32}
theorem lvE.okP (e : lvE f g) (ok : okP f) : okP g := by
  refine ⟨e.okM ok.1, fun t ht => ?_, fun j hj => ?_⟩
  · rw [e.T] at ht
    rw [e _ (by omega), e _ (by omega), e _ (by omega)]; exact ok.2.1 t ht
  · rw [e.B] at hj
    rw [e _ (by omega), e _ (by omega)]; exact ok.2.2 j hj
theorem bt_at {i : Nat} : bt g i f k = if 5 + 5 * i ≤ k ∧ k < 10 + 5 * i then g k else f k := by
  unfold bt uT
  by_cases hk : 5 + 5 * i ≤ k ∧ k < 10 + 5 * i
  · rw [if_pos hk]
    have : k = 5 + 5 * i + 4 ∨ k = 5 + 5 * i + 3 ∨ k = 5 + 5 * i + 2 ∨ k = 5 + 5 * i + 1 ∨ k = 5 + 5 * i + 0 := by omega
    rcases this with rfl | rfl | rfl | rfl | rfl
    · rw [pk_us]
    · rw [pk_un (by omega), pk_us]
    · rw [pk_un (by omega), pk_un (by omega), pk_us]
    · rw [pk_un (by omega), pk_un (by omega), pk_un (by omega), pk_us]
    · rw [pk_un (by omega), pk_un (by omega), pk_un (by omega), pk_un (by omega), pk_us]; rfl
  · rw [if_neg hk, pk_un (by omega), pk_un (by omega), pk_un (by omega), pk_un (by omega), pk_un (by omega)]
theorem bb_at {i : Nat} : bb g i f k = if 45 + 4 * i ≤ k ∧ k < 49 + 4 * i then g k else f k := by
  unfold bb uB
  by_cases hk : 45 + 4 * i ≤ k ∧ k < 49 + 4 * i
  · rw [if_pos hk]
    have : k = 45 + 4 * i + 3 ∨ k = 45 + 4 * i + 2 ∨ k = 45 + 4 * i + 1 ∨ k = 45 + 4 * i + 0 := by omega
    rcases this with rfl | rfl | rfl | rfl
    · rw [pk_us]
    · rw [pk_un (by omega), pk_us]
    · rw [pk_un (by omega), pk_un (by omega), pk_us]
    · rw [pk_un (by omega), pk_un (by omega), pk_un (by omega), pk_us]; rfl
  · rw [if_neg hk, pk_un (by omega), pk_un (by omega), pk_un (by omega), pk_un (by omega)]
theorem b5_at : b5 g f k = if k < 5 then g k else f k := by
  unfold b5
  by_cases hk : k < 5
  · rw [if_pos hk]
    have : k = 4 ∨ k = 3 ∨ k = 2 ∨ k = 1 ∨ k = 0 := by omega
    rcases this with rfl | rfl | rfl | rfl | rfl
    · rw [pk_us]
    · rw [pk_un (by omega), pk_us]
    · rw [pk_un (by omega), pk_un (by omega), pk_us]
    · rw [pk_un (by omega), pk_un (by omega), pk_un (by omega), pk_us]
    · rw [pk_un (by omega), pk_un (by omega), pk_un (by omega), pk_un (by omega), pk_us]
  · rw [if_neg hk, pk_un (by omega), pk_un (by omega), pk_un (by omega), pk_un (by omega), pk_un (by omega)]
theorem itbt_at : ∀ n, itF (bt g) n f k = if 5 ≤ k ∧ k < 5 + 5 * n then g k else f k := by
  intro n
  induction n with
  | zero => rw [if_neg (by omega)]; rfl
  | succ n ih =>
    rw [itF, bt_at, ih]
    by_cases h1 : 5 + 5 * n ≤ k ∧ k < 10 + 5 * n
    · rw [if_pos h1, if_pos (by omega)]
    · rw [if_neg h1]
      by_cases h2 : 5 ≤ k ∧ k < 5 + 5 * n
      · rw [if_pos h2, if_pos (by omega)]
      · rw [if_neg h2, if_neg (by omega)]
theorem itbb_at : ∀ n, itF (bb g) n f k = if 45 ≤ k ∧ k < 45 + 4 * n then g k else f k := by
  intro n
  induction n with
  | zero => rw [if_neg (by omega)]; rfl
  | succ n ih =>
    rw [itF, bb_at, ih]
    by_cases h1 : 45 + 4 * n ≤ k ∧ k < 49 + 4 * n
    · rw [if_pos h1, if_pos (by omega)]
    · rw [if_neg h1]
      by_cases h2 : 45 ≤ k ∧ k < 45 + 4 * n
      · rw [if_pos h2, if_pos (by omega)]
      · rw [if_neg h2, if_neg (by omega)]
theorem bcF_lv (h8 : nT g ≤ 8) : lvE g (bcF g f) := by
  intro k hk
  unfold bcF
  rw [itbb_at, itbt_at, b5_at]
  by_cases h1 : 45 ≤ k ∧ k < 45 + 4 * nB g
  · rw [if_pos h1]
  · rw [if_neg h1]
    by_cases h2 : 5 ≤ k ∧ k < 5 + 5 * nT g
    · rw [if_pos h2]
    · rw [if_neg h2, if_pos (by omega)]
theorem mn2_n {a b : Nat} (ha : a < 2 ^ 31) (hb : b < 2 ^ 31) : mn2 (nI a) (nI b) = nI (min a b) := by
  unfold mn2
  by_cases q : b < a
  · rw [if_pos (nI_lt q ha), Nat.min_eq_right (by omega)]
  · rw [if_neg (nI_nlt (by omega) hb), Nat.min_eq_left (by omega)]
theorem cl3_n {a b : Nat} (ha : a < 2 ^ 31) (hb : b < 2 ^ 31) : cl3 (nI a) 0 (nI b) = nI (min a b) := by
  unfold cl3
  rw [if_neg (nI_pos ha)]
  by_cases q : b < a
  · rw [if_pos (nI_lt q ha), Nat.min_eq_right (by omega)]
  · rw [if_neg (nI_nlt (by omega) hb), Nat.min_eq_left (by omega)]
theorem tw6_n {a : Nat} (ha : a < 2 ^ 31 - 1) : tw6 (nI a) = nI (min (a + 1) 6) := by
  unfold tw6
  rw [show (6 : Int32) = nI 6 from rfl]
  by_cases q : a < 6
  · rw [if_pos (nI_lt q (by decide)), nI_1, Nat.min_eq_left (by omega)]
  · rw [if_neg (nI_nlt (by omega) (by omega)), Nat.min_eq_right (by omega)]
theorem rt_eq {x : Int32} (h : 1 ≤ x ∧ x ≤ 6) : cl3 (x + 1) 0 6 = tw6 x := by
  obtain ⟨j, hj, rfl⟩ := rng1 (n := 6) h (by decide)
  rw [tw6_n (by omega), nI_1, show (6 : Int32) = nI 6 from rfl, cl3_n (by omega) (by omega)]
theorem rR_C (ok : okP f) (ht : t < nT f) : rR f t = rC f t := by
  unfold rR rC
  rw [rt_eq (ok.2.1 t ht).2.1]
theorem mir_iff (ok : okP f) (ht : t < nT f) : mirR f t c ↔ mirC f t c := by
  unfold mirR mirC
  rw [rR_C ok ht]
  exact ⟨fun q => ⟨q.1.symm, q.2⟩, fun q => ⟨q.1.symm, q.2⟩⟩
theorem gR_C (ok : okP f) (ht : t < nT f) : gR f c t = gC f c t := by
  have := mir_iff (c := c) ok ht
  unfold gR gC
  by_cases q : mirC f t c
  · rw [if_pos q, if_pos (this.mpr q)]
  · rw [if_neg q, if_neg (fun z => q (this.mp z))]
theorem oR_C (ok : okP f) (ht : t < nT f) : oR f c t = oC f c t := by
  have := mir_iff (c := c) ok ht
  unfold oR oC
  by_cases q : mirC f t c
  · rw [if_pos q, if_pos (this.mpr q)]
  · rw [if_neg q, if_neg (fun z => q (this.mp z))]
theorem tR_C (ok : okP f) (ht : t < nT f) : tR f c t = tC f c t := by
  have := mir_iff (c := c) ok ht
  unfold tR tC
  by_cases q : mirC f t c
  · rw [if_pos q, if_pos (this.mpr q)]
  · rw [if_neg q, if_neg (fun z => q (this.mp z))]
theorem glR_C (ok : okP f) : glR f c = glC f c := by
  unfold glR glC
  rw [sumI_c (nT f) (fun t ht => gR_C (c := c) ok ht)]
theorem gAR_C (ok : okP f) : sumI (gAR f) 48 = sumI (gAC f) 48 := sumI_c _ (fun t _ => by unfold gAR gAC; exact glR_C ok)
theorem soR_C (ok : okP f) : orI (oR f c) (nT f) = orI (oC f c) (nT f) := orI_c _ (fun t ht => oR_C ok ht)
theorem stR_C (ok : okP f) : sumI (tR f c) (nT f) = sumI (tC f c) (nT f) := sumI_c _ (fun t ht => tR_C ok ht)
theorem shn_n {l r : Nat} (k : Int32) (hl : l ≤ 99) (hr : r ≤ 5) : ∃ v, v ≤ 201 ∧ shn k (nI l) (nI r) = nI v := by
  have hd : nI l / (nI r + 1) = nI (l / (r + 1)) := by rw [nI_1, pk_div (by omega) (by omega) (by omega)]
  have hq : l / (r + 1) ≤ 99 := Nat.le_trans (Nat.div_le_self _ _) hl
  unfold shn
  rw [hd]
  split
  · exact ⟨2 * (l / (r + 1)), by omega, pk_mul 2 _⟩
  split
  · exact ⟨l / (r + 1) / 2, by omega, pk_div (d := 2) (by omega) (by omega) (by omega)⟩
  split
  · exact ⟨l / (r + 1) + r, by omega, nI_add _ _⟩
  split
  · split
    · refine ⟨2 * (l / (r + 1)) + 3, by omega, ?_⟩
      rw [show (2 : Int32) = nI 2 from rfl, pk_mul, show (3 : Int32) = nI 3 from rfl, nI_add]
    · refine ⟨2 * (l / (r + 1)) + 0, by omega, ?_⟩
      rw [show (2 : Int32) = nI 2 from rfl, pk_mul, show (0 : Int32) = nI 0 from rfl, nI_add]
  · exact ⟨_, by omega, rfl⟩
theorem gC_n (ok : okP f) (hc : 0 ≤ c ∧ c ≤ 47) (ht : t < nT f) : ∃ v, v ≤ 201 ∧ gC f c t = nI v := by
  obtain ⟨m, hm, rfl⟩ := cell_n hc
  obtain ⟨l, hl, el⟩ := rngN (n := 99) (ok.2.1 t ht).2.2 (by decide)
  unfold gC
  split
  · rw [el, show (8 : Int32) = nI 8 from rfl, pk_div (by omega) (by decide) (by decide)]
    exact shn_n _ hl (by omega)
  · exact ⟨0, by omega, rfl⟩
theorem sumI_n {a : Nat → Int32} {b : Nat} : ∀ n, (∀ t, t < n → ∃ v, v ≤ b ∧ a t = nI v) → ∃ v, v ≤ b * n ∧ sumI a n = nI v := by
  intro n
  induction n with
  | zero => intro _; exact ⟨0, by omega, rfl⟩
  | succ n ih =>
    intro h
    obtain ⟨v, hv, e⟩ := ih (fun t ht => h t (by omega))
    obtain ⟨w, hw, e'⟩ := h n (by omega)
    refine ⟨v + w, by rw [Nat.mul_succ]; omega, ?_⟩
    rw [sumI, e, e', nI_add]
theorem glC_n (ok : okP f) (hc : 0 ≤ c ∧ c ≤ 47) : ∃ v, v ≤ 1608 ∧ glC f c = nI v := by
  obtain ⟨v, hv, e⟩ := sumI_n (nT f) (fun t ht => gC_n (c := c) ok hc ht)
  have h8 := ok.1.1.2.1
  have hv2 : v ≤ 1608 := Nat.le_trans hv (by omega)
  unfold glC
  rw [e]
  split
  · exact ⟨0, by omega, rfl⟩
  split
  · exact ⟨v / 3, by omega, pk_div (d := 3) (by omega) (by omega) (by omega)⟩
  · exact ⟨v, hv2, rfl⟩
theorem sub_n {a b : Nat} (h : b ≤ a) (_ : a < 2 ^ 31) : nI a - nI b = nI (a - b) := pk_sub h
theorem tk_n (ok : okP f) (hj : j < nB f) : ∃ v ho, f (45 + 4 * j + 2) = nI ho ∧ v + ho ≤ 999 ∧ tkC f j = nI v ∧ tkR f j = nI v := by
  obtain ⟨a, ha, ea⟩ := glC_n ok (ok.1.2 j hj)
  obtain ⟨ne, hne, en⟩ := rngN (n := 99) (ok.2.2 j hj).1 (by decide)
  obtain ⟨ho, hho, eh⟩ := rngN (n := 999) (ok.2.2 j hj).2 (by decide)
  refine ⟨min a (min ne (999 - ho)), ho, eh, by omega, ?_, ?_⟩
  · unfold tkC
    rw [ea, en, eh, show (999 : Int32) = nI 999 from rfl, sub_n (by omega) (by omega), mn2_n (by omega) (by omega), mn2_n (by omega) (by omega)]
  · unfold tkR
    rw [glR_C ok, ea, en, eh, show (999 : Int32) = nI 999 from rfl, sub_n (by omega) (by omega), cl3_n (by omega) (by omega), cl3_n (by omega) (by omega)]
theorem pay_eq {v : Int32} : cl3 v (-99999) 99999 = mx2 (-99999) (mn2 99999 v) := by
  unfold cl3 mx2 mn2
  have e1 : (-99999 : Int32).toInt = -99999 := by decide
  have e2 : (99999 : Int32).toInt = 99999 := by decide
  (repeat' split) <;> first | rfl | (simp only [Int32.lt_iff_toInt_lt, ← Int32.toInt_inj] at *; omega)
theorem payR_C : payR f j c = ernC f j c := by unfold payR ernC; rw [pay_eq]
theorem dim_n {x : Int32} (h : 0 ≤ x ∧ x ≤ 99) : cl3 (x - 1) 0 99 = mx2 (x - 1) 0 ∧ 0 ≤ mx2 (x - 1) 0 ∧ mx2 (x - 1) 0 ≤ 99 := by
  obtain ⟨j, hj, rfl⟩ := rngN (n := 99) h (by decide)
  cases j with
  | zero => decide
  | succ j =>
    rw [nI_pred, show (99 : Int32) = nI 99 from rfl, cl3_n (by omega) (by omega), Nat.min_eq_left (by omega)]
    have e : mx2 (nI j) 0 = nI j := by
      unfold mx2
      cases j with
      | zero => rfl
      | succ j => rw [if_neg (nI_pos (by omega))]
    rw [e]
    exact ⟨rfl, nI_pos' (by omega), nI_le (by omega) (by omega)⟩
theorem br_n {x : Int32} (h : 0 ≤ x ∧ x ≤ 99) : cl3 (x + 1) 0 99 = mn2 (x + 1) 99 ∧ 0 ≤ mn2 (x + 1) 99 ∧ mn2 (x + 1) 99 ≤ 99 := by
  obtain ⟨j, hj, rfl⟩ := rngN (n := 99) h (by decide)
  rw [nI_1, show (99 : Int32) = nI 99 from rfl, cl3_n (by omega) (by omega), mn2_n (by omega) (by omega)]
  exact ⟨rfl, nI_pos' (by omega), nI_le (by omega) (by omega)⟩
end

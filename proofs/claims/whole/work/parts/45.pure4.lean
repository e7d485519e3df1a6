/-! new things, new boats: ranges, live numbers -/
section
variable {f g : Nat → Int32} {a b c e x : Int32} {k t : Nat}
theorem uT_at {i : Nat} : uT f i a b c e x k = if k = 5 + 5 * i then a else if k = 5 + 5 * i + 1 then b else if k = 5 + 5 * i + 2 then c else if k = 5 + 5 * i + 3 then e else if k = 5 + 5 * i + 4 then x else f k := by
  unfold uT
  by_cases h4 : k = 5 + 5 * i + 4
  · subst h4
    rw [pk_us, if_neg (by omega), if_neg (by omega), if_neg (by omega), if_neg (by omega), if_pos rfl]
  rw [pk_un h4]
  by_cases h3 : k = 5 + 5 * i + 3
  · subst h3
    rw [pk_us, if_neg (by omega), if_neg (by omega), if_neg (by omega), if_pos rfl]
  rw [pk_un h3]
  by_cases h2 : k = 5 + 5 * i + 2
  · subst h2
    rw [pk_us, if_neg (by omega), if_neg (by omega), if_pos rfl]
  rw [pk_un h2]
  by_cases h1 : k = 5 + 5 * i + 1
  · subst h1
    rw [pk_us, if_neg (by omega), if_pos rfl]
  rw [pk_un h1]
  by_cases h0 : k = 5 + 5 * i
  · subst h0
    rw [if_pos rfl]; exact pk_us
  rw [pk_un (by omega), if_neg h0, if_neg h1, if_neg h2, if_neg h3, if_neg h4]
theorem uB_at {j : Nat} : uB f j a b c e k = if k = 45 + 4 * j then a else if k = 45 + 4 * j + 1 then b else if k = 45 + 4 * j + 2 then c else if k = 45 + 4 * j + 3 then e else f k := by
  unfold uB
  by_cases h3 : k = 45 + 4 * j + 3
  · subst h3
    rw [pk_us, if_neg (by omega), if_neg (by omega), if_neg (by omega), if_pos rfl]
  rw [pk_un h3]
  by_cases h2 : k = 45 + 4 * j + 2
  · subst h2
    rw [pk_us, if_neg (by omega), if_neg (by omega), if_pos rfl]
  rw [pk_un h2]
  by_cases h1 : k = 45 + 4 * j + 1
  · subst h1
    rw [pk_us, if_neg (by omega), if_pos rfl]
  rw [pk_un h1]
  by_cases h0 : k = 45 + 4 * j
  · subst h0
    rw [if_pos rfl]; exact pk_us
  rw [pk_un (by omega), if_neg h0, if_neg h1, if_neg h2, if_neg h3]
theorem aT_un (h3 : k ≠ 3) : aT f a b c e x k = uT f (nT f) a b c e x k := pk_un h3
theorem aB_un (h4 : k ≠ 4) : aB f a b k = uB f (nB f) a b 0 0 k := pk_un h4
theorem aT_T (ok : okN f) : aT f a b c e x 3 = nI (nT f + 1) ∧ nT (aT f a b c e x) = nT f + 1 ∧ nB (aT f a b c e x) = nB f := by
  have h8 := ok.2.1
  have e3 : aT f a b c e x 3 = nI (nT f + 1) := by rw [aT_3, ok.1, nI_1]
  refine ⟨e3, ?_, ?_⟩
  · unfold nT at e3 ⊢
    rw [e3, nI_clamp (by unfold nT at h8; omega)]
  · exact nB_of (by rw [aT_un (by omega), uT_o (by omega)])
theorem aB_B (ok : okN f) : aB f a b 4 = nI (nB f + 1) ∧ nB (aB f a b) = nB f + 1 ∧ nT (aB f a b) = nT f := by
  have h5 := ok.2.2.2
  have e4 : aB f a b 4 = nI (nB f + 1) := by rw [aB_4, ok.2.2.1, nI_1]
  refine ⟨e4, ?_, ?_⟩
  · unfold nB at e4 ⊢
    rw [e4, nI_clamp (by unfold nB at h5; omega)]
  · exact nT_of (by rw [aB_un (by omega), uB_o (by omega)])
theorem aT_P (ok : okP f) (h : nT f < 8) (ha : 0 ≤ a ∧ a ≤ 5) (hc : 1 ≤ c ∧ c ≤ 6) (he : 0 ≤ e ∧ e ≤ 99) : okP (aT f a b c e x) := by
  obtain ⟨e3, eT, eB⟩ := aT_T (a := a) (b := b) (c := c) (e := e) (x := x) ok.1.1
  have h8 := ok.h8
  have h5 := ok.h5
  refine ⟨⟨⟨?_, by rw [eT]; omega, ?_, by rw [eB]; omega⟩, fun j hj => ?_⟩, fun t ht => ?_, fun j hj => ?_⟩
  · rw [eT]; exact e3
  · rw [eB, aT_un (by omega), uT_o (by omega)]; exact ok.1.1.2.2.1
  · rw [eB] at hj
    rw [aT_un (by omega), uT_o (by omega)]; exact ok.1.2 j hj
  · rw [eT] at ht
    by_cases q : t = nT f
    · subst q
      rw [aT_un (by omega), aT_un (by omega), aT_un (by omega), uT_at, uT_at, uT_at, if_pos rfl, if_neg (by omega), if_neg (by omega), if_pos rfl, if_neg (by omega), if_neg (by omega), if_neg (by omega), if_pos rfl]
      exact ⟨ha, hc, he⟩
    · rw [aT_un (by omega), aT_un (by omega), aT_un (by omega), uT_o (by omega), uT_o (by omega), uT_o (by omega)]
      exact ok.2.1 t (by omega)
  · rw [eB] at hj
    rw [aT_un (by omega), aT_un (by omega), uT_o (by omega), uT_o (by omega)]; exact ok.2.2 j hj
theorem aB_P (ok : okP f) (h : nB f < 5) (ha : 0 ≤ a ∧ a ≤ 47) (hb : 0 ≤ b ∧ b ≤ 99) : okP (aB f a b) := by
  obtain ⟨e4, eB, eT⟩ := aB_B (a := a) (b := b) ok.1.1
  have h8 := ok.h8
  have h5 := ok.h5
  refine ⟨⟨⟨?_, by rw [eT]; omega, ?_, by rw [eB]; omega⟩, fun j hj => ?_⟩, fun t ht => ?_, fun j hj => ?_⟩
  · rw [eT, aB_un (by omega), uB_o (by omega)]; exact ok.1.1.1
  · rw [eB]; exact e4
  · rw [eB] at hj
    rw [aB_un (by omega), uB_at]
    by_cases q : j = nB f
    · subst q
      rw [if_pos rfl]; exact ha
    · rw [if_neg (by omega), if_neg (by omega), if_neg (by omega), if_neg (by omega)]; exact ok.1.2 j (by omega)
  · rw [eT] at ht
    rw [aB_un (by omega), aB_un (by omega), aB_un (by omega), uB_o (by omega), uB_o (by omega), uB_o (by omega)]
    exact ok.2.1 t ht
  · rw [eB] at hj
    rw [aB_un (by omega), aB_un (by omega), uB_at, uB_at]
    by_cases q : j = nB f
    · subst q
      rw [if_neg (by omega), if_pos rfl, if_neg (by omega), if_neg (by omega), if_pos rfl]; exact ⟨hb, by decide⟩
    · rw [if_neg (by omega), if_neg (by omega), if_neg (by omega), if_neg (by omega), if_neg (by omega), if_neg (by omega), if_neg (by omega), if_neg (by omega)]; exact ok.2.2 j (by omega)
theorem aT_lv (ok : okN f) (h : nT f < 8) (e0 : lvE f g) : lvE (aT f a b c e x) (aT g a b c e x) := by
  obtain ⟨-, eT, eB⟩ := aT_T (a := a) (b := b) (c := c) (e := e) (x := x) ok
  intro k hk
  rw [eT, eB] at hk
  by_cases q : k = 3
  · subst q
    rw [aT_3, aT_3, e0 3 (by omega)]
  · rw [aT_un q, aT_un q, uT_at, uT_at, e0.T]
    (repeat' split) <;> first | rfl | (exact e0 k (by omega))
theorem aB_lv (ok : okN f) (e0 : lvE f g) : lvE (aB f a b) (aB g a b) := by
  obtain ⟨-, eB, eT⟩ := aB_B (a := a) (b := b) ok
  intro k hk
  rw [eT, eB] at hk
  by_cases q : k = 4
  · subst q
    rw [aB_4, aB_4, e0 4 (by omega)]
  · rw [aB_un q, aB_un q, uB_at, uB_at, e0.B]
    (repeat' split) <;> first | rfl | (exact e0 k (by omega))
end
/-! items: tokens go on, ranges stay, live numbers alone count -/
section
variable {b : Nat → Int32} {L : Nat} {t : Tk} {f g : Nat → Int32} {k c h l : Int32}
def itQ (b : Nat → Int32) (L : Nat) (t : Tk) (f g : Nat → Int32) (r s : Int32 × Tk × (Nat → Int32)) : Prop := r.1 = s.1 ∧ r.2.1 = s.2.1 ∧ lvE r.2.2 s.2.2 ∧ okP r.2.2 ∧ okT b L r.2.1 ∧ t.2.1 ≤ r.2.1.2.1
theorem itQ.le {t' : Tk} {r s : Int32 × Tk × (Nat → Int32)} (q : itQ b L t' f g r s) (hl : t.2.1 ≤ t'.2.1) : itQ b L t f g r s := ⟨q.1, q.2.1, q.2.2.1, q.2.2.2.1, q.2.2.2.2.1, Nat.le_trans hl q.2.2.2.2.2⟩
theorem th4_Q (ok : okP f) (e : lvE f g) (okt : okT b L t) (h8 : nT f < 8) (hk : 0 ≤ k ∧ k ≤ 5) (hh : 1 ≤ h ∧ h ≤ 6) (hl : 0 ≤ l ∧ l ≤ 99) : itQ b L t f g (th4 b L k c h l t f) (th4 b L k c h l t g) := by
  have o := nA_ok (w := 9) (lo := 0) (hi := 9) (so := 1) okt
  unfold th4
  split
  · exact ⟨rfl, rfl, e, ok, o.1, o.2⟩
  · exact ⟨rfl, rfl, aT_lv ok.1.1 h8 e, aT_P ok h8 hk hh hl, o.1, o.2⟩
theorem n_rg {v lo hi : Nat} {x : Int32} (h1 : lo ≤ v) (h2 : v ≤ hi) (hh : hi ≤ 99) (e : x = nI v) : nI lo ≤ x ∧ x ≤ nI hi := by
  subst e; exact ⟨nI_le h1 (by omega), nI_le h2 (by omega)⟩
theorem th3_Q (ok : okP f) (e : lvE f g) (okt : okT b L t) (h8 : nT f < 8) (hk : 0 ≤ k ∧ k ≤ 5) (hh : 1 ≤ h ∧ h ≤ 6) : itQ b L t f g (th3 b L k c h t f) (th3 b L k c h t g) := by
  have o := nA_ok (w := 8) (lo := 0) (hi := 99) (so := 40) okt
  unfold th3
  split
  · exact ⟨rfl, rfl, e, ok, o.1, o.2⟩
  · rename_i q
    rcases nA_n (b := b) (L := L) (w := 8) (lo := 0) (hi := 99) (so := 40) (t := t) (by omega) (Or.inr ⟨40, by omega, by omega, rfl⟩) with z | ⟨v, v1, v2, v3⟩
    · exact absurd z q
    · exact (th4_Q ok e o.1 h8 hk hh (n_rg (lo := 0) (hi := 99) v1 v2 (by omega) v3)).le o.2
theorem th2_Q (ok : okP f) (e : lvE f g) (okt : okT b L t) (h8 : nT f < 8) (hk : 0 ≤ k ∧ k ≤ 5) : itQ b L t f g (th2 b L k c t f) (th2 b L k c t g) := by
  have o := nA_ok (w := 7) (lo := 1) (hi := 6) (so := 3) okt
  unfold th2
  split
  · exact ⟨rfl, rfl, e, ok, o.1, o.2⟩
  · rename_i q
    rcases nA_n (b := b) (L := L) (w := 7) (lo := 1) (hi := 6) (so := 3) (t := t) (by omega) (Or.inr ⟨3, by omega, by omega, rfl⟩) with z | ⟨v, v1, v2, v3⟩
    · exact absurd z q
    · exact (th3_Q ok e o.1 h8 hk (n_rg (lo := 1) (hi := 6) v1 v2 (by omega) v3)).le o.2
theorem th1_Q (ok : okP f) (e : lvE f g) (okt : okT b L t) (h8 : nT f < 8) (hk : 0 ≤ k ∧ k ≤ 5) : itQ b L t f g (th1 b L k t f) (th1 b L k t g) := by
  have o := nA_ok (w := 6) (lo := 0) (hi := 7) (so := -1) okt
  unfold th1
  split
  · exact ⟨rfl, rfl, e, ok, o.1, o.2⟩
  · exact (th2_Q ok e o.1 h8 hk).le o.2
theorem thI_Q (ok : okP f) (e : lvE f g) (okt : okT b L t) (hk : 0 ≤ k ∧ k ≤ 5) : itQ b L t f g (thI b L k t f) (thI b L k t g) := by
  have o := nx_ok okt
  unfold thI
  rw [show g 3 = f 3 from e 3 (by omega)]
  split
  · exact ⟨rfl, rfl, e, ok, okt, Nat.le_refl _⟩
  · rename_i q
    exact (th1_Q ok e o.1 (lt_of8 ok.1.1 (Int32.not_le.mp q)) hk).le (Nat.le_trans okt.1 o.2)
theorem bo2_Q (ok : okP f) (e : lvE f g) (okt : okT b L t) (h5 : nB f < 5) (hc : 0 ≤ c ∧ c ≤ 47) : itQ b L t f g (bo2 b L c t f) (bo2 b L c t g) := by
  have o := nA_ok (w := 11) (lo := 0) (hi := 99) (so := 10) okt
  unfold bo2
  split
  · exact ⟨rfl, rfl, e, ok, o.1, o.2⟩
  · rename_i q
    rcases nA_n (b := b) (L := L) (w := 11) (lo := 0) (hi := 99) (so := 10) (t := t) (by omega) (Or.inr ⟨10, by omega, by omega, rfl⟩) with z | ⟨v, v1, v2, v3⟩
    · exact absurd z q
    · exact ⟨rfl, rfl, aB_lv ok.1.1 e, aB_P ok h5 hc (n_rg (lo := 0) (hi := 99) v1 v2 (by omega) v3), o.1, o.2⟩
theorem boI_Q (ok : okP f) (e : lvE f g) (okt : okT b L t) : itQ b L t f g (boI b L t f) (boI b L t g) := by
  have o := nx_ok okt
  have o2 := nU_ok (lo := 0) (hi := 47) o.1
  unfold boI
  rw [show g 4 = f 4 from e 4 (by omega)]
  split
  · exact ⟨rfl, rfl, e, ok, okt, Nat.le_refl _⟩
  · rename_i q
    have hle : t.2.1 ≤ (nU b L 0 47 (nx b L t)).2.2.1 := Nat.le_trans okt.1 (Nat.le_trans o.2 o2.2)
    split
    · exact ⟨rfl, rfl, e, ok, o2.1, hle⟩
    · rename_i q2
      rcases nU_n (b := b) (L := L) (lo := 0) (hi := 47) (t := nx b L t) (by omega) with z | ⟨v, v1, v2, v3⟩
      · exact absurd z q2
      · exact (bo2_Q ok e o2.1 (lt_of5 ok.1.1 (Int32.not_le.mp q)) (n_rg (lo := 0) (hi := 47) v1 v2 (by omega) v3)).le hle
theorem rpI_Q {on : Nat} (ok : okP f) (e : lvE f g) (okt : okT b L t) : itQ b L t f g (rpI b L on t f) (rpI b L on t g) := by
  have o := nx_ok okt
  have o2 := nU_ok (lo := 0) (hi := 7) o.1
  have hle : t.2.1 ≤ (nU b L 0 7 (nx b L t)).2.2.1 := Nat.le_trans okt.1 (Nat.le_trans o.2 o2.2)
  unfold rpI
  rw [show g 1 = f 1 from e 1 (by omega)]
  split
  · exact ⟨rfl, rfl, e, ok, o2.1, hle⟩
  · exact ⟨rfl, rfl, e.u (by decide) (by decide), ok.lo (by decide), o2.1, hle⟩
theorem itI_Q (ok : okP f) (e : lvE f g) (okt : okT b L t) : itQ b L t f g (itI b L t f) (itI b L t g) := by
  have o := nx_ok okt
  unfold itI
  split
  · rename_i q
    exact thI_Q ok e okt (n_rg (lo := 0) (hi := 5) (Nat.zero_le _) q (by omega) rfl)
  split
  · exact boI_Q ok e okt
  split
  · exact rpI_Q ok e okt
  split
  · exact rpI_Q ok e okt
  split
  · exact ⟨rfl, rfl, e.u (by decide) (by decide), ok.lo (by decide), o.1, Nat.le_trans okt.1 o.2⟩
  split
  · exact ⟨rfl, rfl, e.u (by decide) (by decide), ok.lo (by decide), o.1, Nat.le_trans okt.1 o.2⟩
  · exact ⟨rfl, rfl, e, ok, okt, Nat.le_refl _⟩
theorem itI_go (ok : okP f) (okt : okT b L t) (h : ¬ (itI b L t f).1 = 0) : t.2.2.1 ≤ (itI b L t f).2.1.2.1 ∧ ¬ t.1 = 0 := by
  have o := nx_ok okt
  refine ⟨?_, fun z => ?_⟩
  · unfold itI at h ⊢
    split
    · rename_i q
      rw [if_pos q] at h
      unfold thI at h ⊢
      split
      · rename_i q2; rw [if_pos q2] at h; exact absurd rfl h
      · rename_i q2
        exact Nat.le_trans o.2 (th1_Q ok lvE.rf o.1 (lt_of8 ok.1.1 (Int32.not_le.mp q2)) (n_rg (lo := 0) (hi := 5) (Nat.zero_le _) q (by omega) rfl)).2.2.2.2.2
    rename_i n0
    rw [if_neg n0] at h
    split
    · rename_i q
      rw [if_pos q] at h
      have o2 := nU_ok (lo := 0) (hi := 47) o.1
      unfold boI at h ⊢
      split
      · rename_i q2; rw [if_pos q2] at h; exact absurd rfl h
      · rename_i q2
        rw [if_neg q2] at h
        split
        · rename_i q3; rw [if_pos q3] at h; exact absurd rfl h
        · rename_i q3
          rcases nU_n (b := b) (L := L) (lo := 0) (hi := 47) (t := nx b L t) (by omega) with z | ⟨v, v1, v2, v3⟩
          · exact absurd z q3
          · exact Nat.le_trans o.2 (Nat.le_trans o2.2 (bo2_Q ok lvE.rf o2.1 (lt_of5 ok.1.1 (Int32.not_le.mp q2)) (n_rg (lo := 0) (hi := 47) v1 v2 (by omega) v3)).2.2.2.2.2)
    rename_i n1
    rw [if_neg n1] at h
    have o2 := nU_ok (lo := 0) (hi := 7) o.1
    split
    · unfold rpI; split <;> exact Nat.le_trans o.2 o2.2
    split
    · unfold rpI; split <;> exact Nat.le_trans o.2 o2.2
    split
    · exact o.2
    split
    · exact o.2
    · rename_i n2 n3 n4 n5
      rw [if_neg n2, if_neg n3, if_neg n4, if_neg n5] at h
      exact absurd rfl h
  · have e : cd b t = 22 := cd_22.mpr z
    unfold itI at h
    rw [e] at h
    exact absurd rfl h
end
/-- the text of a lake: what both answer; the class -/
def c_lake (o : xO) (L : Nat) (f0 f1 f2 : Nat → Int32) : Value × xO × (Nat → Int32) × (Nat → Int32) := (.int (rdA o.2.2.2.1 L 120 1 (tok o.2.2.2.1 L 0) (bcF f0 f1)).1, oT (oK o (rdA o.2.2.2.1 L 120 1 (tok o.2.2.2.1 L 0) (bcF f0 f1)).2.2) 0 o.2.2.2.1, if (rdA o.2.2.2.1 L 120 1 (tok o.2.2.2.1 L 0) (bcF f0 f1)).1 < 0 then f0 else bcF (rdA o.2.2.2.1 L 120 1 (tok o.2.2.2.1 L 0) (bcF f0 f1)).2.1 f0, f2)
/-- what the reading of a text comes to -/
theorem rdA_Q {b : Nat → Int32} {L : Nat} : ∀ (k i : Nat) (t : Tk) (f g : Nat → Int32), okP f → lvE f g → okT b L t → (rdA b L k i t f).1 = (rdA b L k i t g).1 ∧ (rdA b L k i t f).2.2 = (rdA b L k i t g).2.2 ∧ lvE (rdA b L k i t f).2.1 (rdA b L k i t g).2.1 ∧ okP (rdA b L k i t f).2.1 := by
  intro k
  induction k with
  | zero => intro i t f g ok e okt; exact ⟨rfl, rfl, e, ok⟩
  | succ k ih =>
    intro i t f g ok e okt
    obtain ⟨q1, q2, q3, q4, q5, -⟩ := itI_Q ok e okt
    rw [rdA, rdA, ← q1, ← q2]
    split
    · exact ⟨rfl, rfl, q3, q4⟩
    split
    · exact ⟨rfl, rfl, q3, q4⟩
    split
    · exact ih _ _ _ _ q4 q3 (nx_ok q5).1
    · exact ⟨rfl, rfl, q3, q4⟩

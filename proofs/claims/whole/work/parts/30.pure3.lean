/-! an hour keeps the ranges, and the reference's hour is the class's -/
section
variable {f g h : Nat → Int32} {t j n k i : Nat} {c x : Int32}
theorem okP.u (ok : okP f) (h3 : k ≠ 3) (h4 : k ≠ 4) (t0 : ∀ t, t < nT f → k = 5 + 5 * t → 0 ≤ x ∧ x ≤ 5) (t2 : ∀ t, t < nT f → k = 5 + 5 * t + 2 → 1 ≤ x ∧ x ≤ 6) (t3 : ∀ t, t < nT f → k = 5 + 5 * t + 3 → 0 ≤ x ∧ x ≤ 99) (b0 : ∀ j, j < nB f → k = 45 + 4 * j → 0 ≤ x ∧ x ≤ 47) (b1 : ∀ j, j < nB f → k = 45 + 4 * j + 1 → 0 ≤ x ∧ x ≤ 99) (b2 : ∀ j, j < nB f → k = 45 + 4 * j + 2 → 0 ≤ x ∧ x ≤ 999) : okP (upd f k x) := by
  have e3 : nT (upd f k x) = nT f := nT_of (pk_un (Ne.symm h3))
  have e4 : nB (upd f k x) = nB f := nB_of (pk_un (Ne.symm h4))
  have one : ∀ i, (i = k → 0 ≤ x ∧ x ≤ 5) → (0 ≤ f i ∧ f i ≤ 5) → (0 ≤ upd f k x i ∧ upd f k x i ≤ 5) := by
    intro i a b
    by_cases q : i = k
    · rw [q, pk_us]; exact a q
    · rw [pk_un q]; exact b
  have gen : ∀ (i : Nat) (P : Int32 → Prop), (i = k → P x) → P (f i) → P (upd f k x i) := by
    intro i P a b
    by_cases q : i = k
    · rw [q, pk_us]; exact a q
    · rw [pk_un q]; exact b
  refine ⟨⟨ok.1.1.of (pk_un (Ne.symm h3)) (pk_un (Ne.symm h4)), fun j hj => ?_⟩, fun t ht => ⟨?_, ?_, ?_⟩, fun j hj => ⟨?_, ?_⟩⟩
  · rw [e4] at hj; exact gen _ (fun y => 0 ≤ y ∧ y ≤ 47) (fun q => b0 j hj q.symm) (ok.1.2 j hj)
  · rw [e3] at ht; exact gen _ (fun y => 0 ≤ y ∧ y ≤ 5) (fun q => t0 t ht q.symm) (ok.2.1 t ht).1
  · rw [e3] at ht; exact gen _ (fun y => 1 ≤ y ∧ y ≤ 6) (fun q => t2 t ht q.symm) (ok.2.1 t ht).2.1
  · rw [e3] at ht; exact gen _ (fun y => 0 ≤ y ∧ y ≤ 99) (fun q => t3 t ht q.symm) (ok.2.1 t ht).2.2
  · rw [e4] at hj; exact gen _ (fun y => 0 ≤ y ∧ y ≤ 99) (fun q => b1 j hj q.symm) (ok.2.2 j hj).1
  · rw [e4] at hj; exact gen _ (fun y => 0 ≤ y ∧ y ≤ 999) (fun q => b2 j hj q.symm) (ok.2.2 j hj).2
theorem okP.h8 (ok : okP f) : nT f ≤ 8 := ok.1.1.2.1
theorem okP.h5 (ok : okP f) : nB f ≤ 5 := ok.1.1.2.2.2
theorem okP.li (ok : okP f) (ht : t < 8) (hx : 0 ≤ x ∧ x ≤ 99) : okP (upd f (5 + 5 * t + 3) x) := by
  have h8 := ok.h8
  exact ok.u (by omega) (by omega) (fun _ _ q => by omega) (fun _ _ q => by omega) (fun _ _ _ => hx) (fun _ _ q => by omega) (fun _ _ q => by omega) (fun _ _ q => by omega)
theorem okP.ho (ok : okP f) (hj : j < 5) (hx : 0 ≤ x ∧ x ≤ 999) : okP (upd f (45 + 4 * j + 2) x) := by
  have h8 := ok.h8
  exact ok.u (by omega) (by omega) (fun _ _ q => by omega) (fun _ _ q => by omega) (fun _ _ q => by omega) (fun _ _ q => by omega) (fun _ _ q => by omega) (fun _ _ _ => hx)
theorem okP.ne (ok : okP f) (hj : j < 5) (hx : 0 ≤ x ∧ x ≤ 99) : okP (upd f (45 + 4 * j + 1) x) := by
  have h8 := ok.h8
  exact ok.u (by omega) (by omega) (fun _ _ q => by omega) (fun _ _ q => by omega) (fun _ _ q => by omega) (fun _ _ q => by omega) (fun _ _ _ => hx) (fun _ _ q => by omega)
theorem okP.at (ok : okP f) (hj : j < 5) (hx : 0 ≤ x ∧ x ≤ 47) : okP (upd f (45 + 4 * j) x) := by
  have h8 := ok.h8
  exact ok.u (by omega) (by omega) (fun _ _ q => by omega) (fun _ _ q => by omega) (fun _ _ q => by omega) (fun _ _ _ => hx) (fun _ _ q => by omega) (fun _ _ q => by omega)
theorem okP.co (ok : okP f) (hj : j < 5) : okP (upd f (45 + 4 * j + 3) x) := by
  have h8 := ok.h8
  exact ok.u (by omega) (by omega) (fun _ _ q => by omega) (fun _ _ q => by omega) (fun _ _ q => by omega) (fun _ _ q => by omega) (fun _ _ q => by omega) (fun _ _ q => by omega)
theorem okP.lo (ok : okP f) (hk : k < 3) : okP (upd f k x) := by
  exact ok.u (by omega) (by omega) (fun _ _ q => by omega) (fun _ _ q => by omega) (fun _ _ q => by omega) (fun _ _ q => by omega) (fun _ _ q => by omega) (fun _ _ q => by omega)
theorem okP.ki (ok : okP f) (ht : t < 8) (hx : 0 ≤ x ∧ x ≤ 5) : okP (upd f (5 + 5 * t) x) := by
  have h8 := ok.h8
  exact ok.u (by omega) (by omega) (fun _ _ _ => hx) (fun _ _ q => by omega) (fun _ _ q => by omega) (fun _ _ q => by omega) (fun _ _ q => by omega) (fun _ _ q => by omega)
theorem okP.he (ok : okP f) (ht : t < 8) (hx : 1 ≤ x ∧ x ≤ 6) : okP (upd f (5 + 5 * t + 2) x) := by
  have h8 := ok.h8
  exact ok.u (by omega) (by omega) (fun _ _ q => by omega) (fun _ _ _ => hx) (fun _ _ q => by omega) (fun _ _ q => by omega) (fun _ _ q => by omega) (fun _ _ q => by omega)
theorem okP.cf (ok : okP f) (ht : t < 8) (hk : k = 5 + 5 * t + 1 ∨ k = 5 + 5 * t + 4) : okP (upd f k x) := by
  have h8 := ok.h8
  exact ok.u (by omega) (by omega) (fun _ _ q => by omega) (fun _ _ q => by omega) (fun _ _ q => by omega) (fun _ _ q => by omega) (fun _ _ q => by omega) (fun _ _ q => by omega)
theorem itF_ok {st st' : Nat → (Nat → Int32) → (Nat → Int32)} (hs : ∀ t g, t < n → okP g → nT g = k → nB g = j → st t g = st' t g ∧ okP (st' t g) ∧ nT (st' t g) = k ∧ nB (st' t g) = j) : ∀ m, m ≤ n → ∀ f, okP f → nT f = k → nB f = j → itF st m f = itF st' m f ∧ okP (itF st' m f) ∧ nT (itF st' m f) = k ∧ nB (itF st' m f) = j := by
  intro m
  induction m with
  | zero => intro _ f e h1 h2; exact ⟨rfl, e, h1, h2⟩
  | succ m ih =>
    intro hm f e h1 h2
    obtain ⟨q, a, b, c⟩ := ih (by omega) f e h1 h2
    have := hs m _ (by omega) a b c
    rw [itF, itF, q]
    exact this
theorem dim_P (ok : okP f) (ht : t < nT f) : dimR c t f = dimC c t f ∧ okP (dimC c t f) := by
  have hd := dim_n (ok.2.1 t ht).2.2
  have h8 := ok.h8
  unfold dimR dimC dm1
  by_cases q : mirC f t c
  · rw [if_pos q, if_pos ((mir_iff ok ht).mpr q), hd.1]
    exact ⟨rfl, ok.li (by omega) hd.2⟩
  · rw [if_neg q, if_neg (fun z => q ((mir_iff ok ht).mp z))]
    exact ⟨rfl, ok⟩
theorem hld_P (ok : okP f) (hj : j < nB f) : hldR j f = hldC j f ∧ okP (hldC j f) := by
  obtain ⟨v, ho, eh, hv, ec, er⟩ := tk_n ok hj
  have h5 := ok.h5
  unfold hldR hldC
  rw [ec, er, eh, nI_add]
  exact ⟨rfl, ok.ho (by omega) ⟨nI_pos' (by omega), nI_le (b := 999 - 0) (a := ho + v) (by omega) (by omega)⟩⟩
theorem tp_P (ok : okP f) (hj : j < nB f) : tpR j f = tpC j f ∧ okP (tpC j f) := by
  obtain ⟨e, okh⟩ := hld_P ok hj
  have h5 := ok.h5
  unfold tpR tpC
  rw [e, payR_C, stR_C okh]
  exact ⟨rfl, okh.co (by omega)⟩
theorem tak_P (ok : okP f) (hj : j < nB f) : takR j f = takC j f ∧ okP (takC j f) := by
  obtain ⟨v, ho, eh, hv, ec, er⟩ := tk_n ok hj
  obtain ⟨e, okt⟩ := tp_P ok hj
  have h8 := okt.h8
  unfold takR takC
  rw [ec, er, e]
  cases v with
  | zero => rw [if_pos (show nI 0 = 0 from rfl), if_neg (show ¬ 0 < nI 0 by decide)]; exact ⟨rfl, ok⟩
  | succ v =>
    rw [if_neg (nI_ne0 (by omega) (by omega)), if_pos (show 0 < nI (v + 1) from nI_lt (a := 0) (by omega) (by omega))]
    have := itF_ok (st := dimR (f (45 + 4 * j))) (st' := dimC (f (45 + 4 * j))) (n := nT (tpC j f)) (k := nT (tpC j f)) (j := nB (tpC j f)) (fun t a ht q q1 q2 => ⟨(dim_P q (by omega)).1, (dim_P q (by omega)).2, (dimC_s (by omega) a).T.trans q1, (dimC_s (by omega) a).B.trans q2⟩) _ (Nat.le_refl _) _ okt rfl rfl
    exact ⟨this.1, this.2.1⟩
theorem sl_P (ok : okP f) (hj : j < 5) : slR j f = slC j f ∧ okP (slC j f) := by
  unfold slR slC
  rw [payR_C]
  exact ⟨rfl, (ok.co hj).ho hj (by decide)⟩
theorem br_P (ok : okP f) (ht : t < nT f) : brR t f = brC t f ∧ okP (brC t f) := by
  have hd := br_n (ok.2.1 t ht).2.2
  have h8 := ok.h8
  unfold brR brC
  rw [hd.1]
  exact ⟨rfl, ok.li (by omega) hd.2⟩
theorem h1_P (ok : okP f) : h1R f = h1C f ∧ okP (h1C f) := by
  have := itF_ok (st := takR) (st' := takC) (n := nB f) (k := nT f) (j := nB f) (fun t a ht q q1 q2 => ⟨(tak_P q (by omega)).1, (tak_P q (by omega)).2, (takC_s a q.h8).T.trans q1, (takC_s a q.h8).B.trans q2⟩) _ (Nat.le_refl _) _ ok rfl rfl
  exact ⟨this.1, this.2.1⟩
theorem h2_P (ok : okP f) : h2R f = h2C f ∧ okP (h2C f) := by
  have h5 := ok.h5
  have := itF_ok (st := slR) (st' := slC) (n := nB f) (k := nT f) (j := nB f) (fun t a ht q q1 q2 => ⟨(sl_P q (by omega)).1, (sl_P q (by omega)).2, (slC_s a).T.trans q1, (slC_s a).B.trans q2⟩) _ (Nat.le_refl _) _ ok rfl rfl
  unfold h2R h2C
  split
  · exact ⟨this.1, this.2.1⟩
  · exact ⟨rfl, ok⟩
theorem h3_P (ok : okP f) : h3R f = h3C f ∧ okP (h3C f) := by
  have h8 := ok.h8
  have := itF_ok (st := brR) (st' := brC) (n := nT f) (k := nT f) (j := nB f) (fun t a ht q q1 q2 => ⟨(br_P q (by omega)).1, (br_P q (by omega)).2, (brC_s (by omega) a).T.trans q1, (brC_s (by omega) a).B.trans q2⟩) _ (Nat.le_refl _) _ ok rfl rfl
  unfold h3R h3C
  split
  · exact ⟨this.1, this.2.1⟩
  · exact ⟨rfl, ok⟩
theorem hr_P (ok : okP f) : hrR f = hrC f ∧ okP (hrC f) := by
  obtain ⟨a, oa⟩ := h1_P ok
  obtain ⟨b, ob⟩ := h2_P oa
  obtain ⟨c, oc⟩ := h3_P ob
  unfold hrR hrC
  rw [a, b, c]
  exact ⟨rfl, oc.lo (by decide)⟩
theorem hs_P (ok : okP f) : hsR n f = hsC n f ∧ okP (hsC n f) := by
  have := itF_ok (st := fun _ => hrR) (st' := fun _ => hrC) (n := n) (k := nT f) (j := nB f) (fun t a _ q q1 q2 => ⟨(hr_P q).1, (hr_P q).2, (hrC_T q.h8).trans q1, (hrC_B q.h8).trans q2⟩) _ (Nat.le_refl _) _ ok rfl rfl
  exact ⟨this.1, this.2.1⟩
end

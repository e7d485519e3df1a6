/-! WHAT HOLDS BETWEEN THE TWO SYSTEMS between calls -/
def IV (o : xO) (f0 f2 : Nat → Int32) (q : xQ) (mf : Nat → Int32) : Prop :=
  okP f0 ∧ lvE f0 mf ∧ okP f2 ∧ lvE f2 q.1 ∧ o.1 = q.2.1 ∧ (∀ j, j < 7 → o.2.1 j = q.2.2.1 j) ∧ o.2.2.2.1 = q.2.2.2.2.2.1 ∧ (∃ L, L ≤ 120 ∧ o.2.2.1 = nI L ∧ q.2.2.2.2.2.2.1 = nI L) ∧ okS (oZ o) ∧ (∀ s, s < 4 → oB o s = qB q s ∧ oZ o s = qZ q s) ∧ ∀ s i, s < 4 → i < 40 → oN o s i = qC q (40 * s + i)
/-- both sides' answers and states agree -/
def Sim (c : SC) (r : SR) : Prop := c.1 = r.1 ∧ ∀ g, eq65 r.2.2 g → IV c.2.1 c.2.2.1 c.2.2.2 r.2.1 g
section
variable {o : xO} {f0 f2 mf g : Nat → Int32} {q : xQ}
theorem IV.m (I : IV o f0 f2 q mf) (e : eq65 mf g) : IV o f0 f2 q g := by
  have okg := I.2.1.okN I.1.1.1
  exact ⟨I.1, I.2.1.tr (e.lv okg), I.2.2⟩
theorem IV.pic {f0' mf' : Nat → Int32} (I : IV o f0 f2 q mf) (ok : okP f0') (e : lvE f0' mf') : IV o f0' f2 q mf' := ⟨ok, e, I.2.2⟩
theorem IV.fi (I : IV o f0 f2 q mf) {j : Option Nat} (hj : ∀ i, j = some i → i < 7) : IV (fnO o j) f0 f2 (fnQ q j) mf := by
  cases j with
  | none => exact I
  | some j =>
    obtain ⟨h1, h2, h3, h4, h5, h6, h7⟩ := I
    refine ⟨h1, h2, h3, h4, h5, fun i hi => ?_, h7⟩
    show upd o.2.1 j (o.2.1 j + 1) i = upd q.2.2.1 j (q.2.2.1 j + 1) i
    by_cases e : i = j
    · subst e; rw [pk_us, pk_us, h6 i hi]
    · rw [pk_un e, pk_un e]; exact h6 i hi
theorem IV.sp {a b : SP} (I : IV o f0 f2 q mf) (h : spE a b) : Sim (.int a.1, fnO o a.2.1, a.2.2, f2) (.int b.1, fnQ q b.2.1, b.2.2) := by
  obtain ⟨h1, h2, h3, h4, h5⟩ := h
  refine ⟨by show Value.int a.1 = Value.int b.1; rw [h1], fun g e => ?_⟩
  show IV (fnO o a.2.1) a.2.2 f2 (fnQ q b.2.1) g
  rw [← h2]
  exact ((I.pic h4 h3).fi h5).m e
theorem IV.f (I : IV o f0 f2 q mf) {j : Nat} (hj : j < 7) : Sim (cF o f0 f2 j) (rF q mf j) := ⟨rfl, fun g e => (I.fi (j := some j) (fun i h => by cases h; exact hj)).m e⟩
theorem IV.fL (I : IV o f0 f2 q mf) {j : Nat} (hj : j < 7) : Sim (cFL o f0 f2 j) (rFL q mf j) := ⟨rfl, fun g e => (I.fi (j := some j) (fun i h => by cases h; exact hj)).m e⟩
/-- a state of the sheets -/
theorem IV.sh (I : IV o f0 f2 q mf) {sb ss bo so : Nat → Int32} {sn : Nat → Nat → Int64} {ce : Nat → Int64} (h1 : okS ss) (h2 : ∀ s, s < 4 → sb s = bo s ∧ ss s = so s) (h3 : ∀ s i, s < 4 → i < 40 → sn s i = ce (40 * s + i)) : IV (oS o sb ss sn) f0 f2 (qS q bo so ce) mf := by
  obtain ⟨a1, a2, a3, a4, a5, a6, a7, a8, -⟩ := I
  exact ⟨a1, a2, a3, a4, a5, a6, a7, a8, h1, h2, h3⟩
theorem IV.tp (I : IV o f0 f2 q mf) {L : Nat} {b : Nat → Int32} (hL : L ≤ 120) : IV (oT o (nI L) b) f0 f2 (qT q (nI L) b) mf := by
  obtain ⟨a1, a2, a3, a4, a5, a6, a7, a8, a9⟩ := I
  exact ⟨a1, a2, a3, a4, a5, a6, rfl, ⟨L, hL, rfl, rfl⟩, a9⟩
theorem by_CR (x : Int32) : ∀ n, n ≤ 4 → ∀ (tb : Nat → Int32) (L : Nat), fd (byC x) n tb L = fd (byR x) n tb L := by
  have key : ∀ k, k < 4 → byC x (nI k) = byR x (nI k) := by
    intro k hk
    have hk4 : k = 0 ∨ k = 1 ∨ k = 2 ∨ k = 3 := by omega
    unfold byC byR
    rw [← Int32.toBitVec_inj]
    apply BitVec.eq_of_getLsbD_eq
    intro i hi
    have e32 : (decide (32 ≤ i)) = false := by simp; omega
    by_cases h8 : i < 8
    · rcases hk4 with rfl | rfl | rfl | rfl
      · simp [nI, Int32.toBitVec_and, Int32.toBitVec_shiftRight, BitVec.getLsbD_and, BitVec.getLsbD_sshiftRight, BitVec.getLsbD_ushiftRight]
      · simp [nI, Int32.toBitVec_and, Int32.toBitVec_shiftRight, BitVec.getLsbD_and, BitVec.getLsbD_sshiftRight, BitVec.getLsbD_ushiftRight, e32, show 8 + i < 32 by omega]
      · simp [nI, Int32.toBitVec_and, Int32.toBitVec_shiftRight, BitVec.getLsbD_and, BitVec.getLsbD_sshiftRight, BitVec.getLsbD_ushiftRight, e32, show 16 + i < 32 by omega]
      · simp [nI, Int32.toBitVec_and, Int32.toBitVec_shiftRight, BitVec.getLsbD_and, BitVec.getLsbD_sshiftRight, BitVec.getLsbD_ushiftRight, e32, show 24 + i < 32 by omega]
    · have h255 : (255 : Int32).toBitVec.getLsbD i = false := by
        show (BitVec.ofNat 32 255).getLsbD i = false
        rw [BitVec.getLsbD_ofNat, Nat.testBit_lt_two_pow (Nat.lt_of_lt_of_le (show 255 < 2 ^ 8 by decide) (Nat.pow_le_pow_right (by decide) (by omega)))]
        simp
      rw [Int32.toBitVec_and, Int32.toBitVec_and, BitVec.getLsbD_and, BitVec.getLsbD_and, h255, Bool.and_false, Bool.and_false]
  intro n
  induction n with
  | zero => intro _ tb L; rfl
  | succ n ih => intro hn tb L; rw [fd, fd, key n (by omega), ih (by omega)]
theorem S_feed {x n : Int32} (I : IV o f0 f2 q mf) : Sim (c_feed o f0 f2 x n) (r_feed q mf x n) := by
  obtain ⟨L, hL, e1, e2⟩ := I.2.2.2.2.2.2.2.1
  have e3 := I.2.2.2.2.2.2.1
  unfold c_feed r_feed
  rw [e1, e2]
  split
  · rename_i h
    split
    · rename_i h2
      obtain ⟨j, hj, rfl⟩ := rng1 (n := 4) h (by decide)
      have h3 := le120 h2 hL hj.2
      rw [nI_add, ← e3, show ix (nI j) = j from nI_clamp (by omega), by_CR x j hj.2]
      exact ⟨rfl, fun g e => (I.tp h3).m e⟩
    · exact I.f (j := 1) (by decide)
  · exact I.f (j := 0) (by decide)
theorem S_wipe (I : IV o f0 f2 q mf) : Sim (.int o.2.2.1, oT o 0 o.2.2.2.1, f0, f2) (.int q.2.2.2.2.2.2.1, qT q 0 q.2.2.2.2.2.1, mf) := by
  obtain ⟨L, hL, e1, e2⟩ := I.2.2.2.2.2.2.2.1
  have e3 := I.2.2.2.2.2.2.1
  rw [e1, e2, ← e3]
  exact ⟨rfl, fun g e => (I.tp (L := 0) (by decide)).m e⟩
theorem S_image (I : IV o f0 f2 q mf) : Sim (c_image o f0 f2) (r_image q mf) := by
  obtain ⟨a1, a2, a3, a4, a5, a6, a7⟩ := id I
  have l1 : lvE f0 (bcF f0 f2) := bcF_lv a1.h8
  refine ⟨rfl, fun g e => ⟨a1, a2.tr (e.lv (a2.okN a1.1.1)), l1.okP a1, ?_, rfl, a6, a7⟩⟩
  show lvE (bcF f0 f2) (cpF 65 mf q.1)
  exact l1.sy.tr (a2.tr (eq65_th.lv (a2.okN a1.1.1)))
theorem S_undo (I : IV o f0 f2 q mf) : Sim (c_undo o f0 f2) (r_undo q mf) := by
  obtain ⟨a1, a2, a3, a4, a5, a6, a7⟩ := id I
  unfold c_undo r_undo
  rw [← a5]
  split
  · exact I.f (j := 3) (by decide)
  · have l1 : lvE f2 (bcF f2 f0) := bcF_lv a3.h8
    refine ⟨by show Value.int _ = Value.int _; rw [a4 3 (by omega)], fun g e => ⟨l1.okP a3, l1.sy.tr (a4.tr (e.lv (a4.okN a3.1.1))), a3, a4, a5, a6, a7⟩⟩
theorem S_tear (I : IV o f0 f2 q mf) : Sim (c_tear o f0 f2) (r_tear q mf) := by
  obtain ⟨a1, a2, a3, a4, a5, a6, a7⟩ := id I
  unfold c_tear r_tear
  rw [← a5]
  exact ⟨rfl, fun g e => ⟨a1, a2.tr (e.lv (a2.okN a1.1.1)), a3, a4, rfl, a6, a7⟩⟩
theorem S_count {w : Int32} (I : IV o f0 f2 q mf) : Sim (c_count o f0 f2 w) (r_count q mf w) := by
  obtain ⟨L, hL, e1, e2⟩ := I.2.2.2.2.2.2.2.1
  have e := I.2.1
  have ep : p_count mf q.2.2.2.2.2.2.1 w = p_count f0 o.2.2.1 w := by
    unfold p_count
    rw [e1, e2, e 3 (by omega), e 4 (by omega), ssB_lv e (by decide), ssB_lv e (by decide)]
  unfold c_count r_count
  rw [ep]
  cases p_count f0 o.2.2.1 w with
  | none => exact I.f (j := 0) (by decide)
  | some x => exact ⟨rfl, fun g e => I.m e⟩
theorem S_stat {w : Int32} (I : IV o f0 f2 q mf) : Sim (c_stat o f0 f2 w) (r_stat q mf w) := by
  have a6 := I.2.2.2.2.2.1
  have ep : p_stat q.2.2.1 w = p_stat o.2.1 w := by
    unfold p_stat
    split
    · rename_i h
      rw [a6 _ (by have := ix_le (M := 6) h (by decide) (by decide); omega)]
    · rw [sumI_c (a := q.2.2.1) (b := o.2.1) 7 (fun t ht => (a6 t ht).symm)]
  unfold c_stat r_stat
  rw [ep]
  cases p_stat o.2.1 w with
  | none => exact I.f (j := 0) (by decide)
  | some x => exact ⟨rfl, fun g e => I.m e⟩
/-! sheets -/
theorem six4 {s : Int32} (h : 0 ≤ s ∧ s ≤ 3) : ix s < 4 := by have := ix_le (M := 3) h (by decide) (by decide); omega
theorem S_sheet {s b n : Int32} (I : IV o f0 f2 q mf) : Sim (c_sheet o f0 f2 s b n) (r_sheet q mf s b n) := by
  obtain ⟨-, -, -, -, -, -, -, -, z1, z2, z3⟩ := id I
  unfold c_sheet r_sheet
  split
  · rename_i h
    have hs := six4 h.1
    split
    · exact I.f (j := 6) (by decide)
    · rename_i hn
      split
      · rename_i h40
        refine ⟨rfl, fun g e => (I.sh ?_ (fun t ht => ⟨?_, ?_⟩) (fun t i ht hi => ?_)).m e⟩
        · intro t ht
          by_cases e : t = ix s
          · subst e
            rw [pk_us]
            split
            · exact ⟨rfl, by decide⟩
            · obtain ⟨j, hj, rfl⟩ := rngN (n := 40) ⟨Int32.not_lt.mp hn, h40⟩ (by decide)
              rw [show ix (nI j) = j from nI_clamp (by omega)]
              exact ⟨rfl, hj⟩
          · rw [pk_un e]; exact z1 t ht
        · by_cases e : t = ix s
          · subst e; rw [pk_us, pk_us]
          · rw [pk_un e, pk_un e]; exact (z2 t ht).1
        · by_cases e : t = ix s
          · subst e; rw [pk_us, pk_us]
          · rw [pk_un e, pk_un e]; exact (z2 t ht).2
        · unfold va_up zrL zrQ
          by_cases e : t = ix s
          · subst e; rw [if_pos rfl, if_pos hi, if_pos (by omega)]
          · rw [if_neg e, if_neg (by omega)]; exact z3 t i ht hi
      · exact I.f (j := 0) (by decide)
  · exact I.f (j := 0) (by decide)
theorem S_write {s i : Int32} {v : Int64} (I : IV o f0 f2 q mf) : Sim (c_write o f0 f2 s i v) (r_write q mf s i v) := by
  obtain ⟨-, -, -, -, -, -, -, -, z1, z2, z3⟩ := id I
  unfold c_write r_write
  split
  · rename_i h
    have hs := six4 h
    rw [← (z2 _ hs).1, ← (z2 _ hs).2]
    split
    · exact I.fL (j := 5) (by decide)
    split
    · rename_i h2
      have hz := z1 _ hs
      obtain ⟨j, hj, rfl⟩ := num_n h2 hz.1 hz.2
      have hz2 := hz.2
      rw [show ix (nI j) = j from nI_clamp (by omega), ← z3 _ _ hs (by omega)]
      refine ⟨rfl, fun g e => (I.sh z1 z2 (fun t k ht hk => ?_)).m e⟩
      unfold va_up vp_updL
      by_cases e : t = ix s
      · subst e
        rw [if_pos rfl]
        by_cases e2 : k = j
        · subst e2; rw [if_pos rfl, if_pos rfl]
        · rw [if_neg e2, if_neg (by omega)]; exact z3 _ k hs hk
      · rw [if_neg e, if_neg (by omega)]; exact z3 t k ht hk
    · exact I.fL (j := 0) (by decide)
  · exact I.fL (j := 0) (by decide)
theorem S_copy {s a t b n : Int32} (I : IV o f0 f2 q mf) : Sim (c_copy o f0 f2 s a t b n) (r_copy q mf s a t b n) := by
  obtain ⟨-, -, -, -, -, -, -, -, z1, z2, z3⟩ := id I
  unfold c_copy r_copy
  split
  · rename_i h
    have hs := six4 h.1
    have ht := six4 h.2
    rw [← (z2 _ hs).1, ← (z2 _ hs).2, ← (z2 _ ht).1, ← (z2 _ ht).2]
    split
    · exact I.f (j := 5) (by decide)
    split
    · split
      · rename_i hr
        have y1 := z1 _ hs
        have y2 := z1 _ ht
        obtain ⟨an, nn, h1, rfl, rfl⟩ := rg_n hr.1 y1.1 y1.2
        obtain ⟨bn, n2, h2, rfl, e2⟩ := rg_n hr.2 y2.1 y2.2
        have y3 := y1.2
        have y4 := y2.2
        have e3 : nn = n2 := (nI_eq (by omega) (by omega)).mp e2
        subst e3
        rw [show ix (nI an) = an from nI_clamp (by omega), show ix (nI bn) = bn from nI_clamp (by omega), show ix (nI nn) = nn from nI_clamp (by omega)]
        refine ⟨rfl, fun g e => (I.sh z1 z2 (fun u k hu hk => ?_)).m e⟩
        unfold va_up va_cpy
        by_cases e : u = ix t
        · subst e
          rw [if_pos rfl]
          by_cases e2 : bn ≤ k ∧ k < bn + nn
          · rw [if_pos e2, if_pos (by omega), z3 _ _ hs (by omega)]
            congr 1; omega
          · rw [if_neg e2, if_neg (by omega)]; exact z3 _ k ht hk
        · rw [if_neg e, if_neg (by omega)]; exact z3 u k hu hk
      · exact I.f (j := 0) (by decide)
    · exact I.f (j := 2) (by decide)
  · exact I.f (j := 0) (by decide)
theorem lyN_c {g1 g2 : Nat → Int64} : ∀ n, (∀ i, i < n → g1 i = g2 i) → lyN g1 n = lyN g2 n := by
  intro n
  induction n with
  | zero => intro _; rfl
  | succ n ih => intro h; rw [lyN, lyN, ih (fun i hi => h i (by omega)), h n (by omega)]
theorem lyF_P {gs : Nat → Int64} : ∀ n, n ≤ 8 → ∀ f g : Nat → Int32, okP f → lvE f g → okP (itF (lyF gs) n f) ∧ lvE (itF (lyF gs) n f) (itF (lyF gs) n g) := by
  intro n
  induction n with
  | zero => intro _ f g ok e; exact ⟨ok, e⟩
  | succ n ih =>
    intro hn f g ok e
    obtain ⟨a, b⟩ := ih (by omega) f g ok e
    rw [itF, itF]
    unfold lyF at a b ⊢
    by_cases h : 0 ≤ gs n ∧ gs n ≤ 99
    · rw [if_pos h, if_pos h]
      refine ⟨a.li (by omega) ?_, b.u (by omega) (by omega)⟩
      have h1 := h.1
      have h2 := h.2
      rw [Int64.le_iff_toInt_le] at h1 h2
      have e0 : (0 : Int64).toInt = 0 := by decide
      have e9 : (99 : Int64).toInt = 99 := by decide
      have et : (gs n).toInt32.toInt = (gs n).toInt := by
        rw [Int64.toInt_toInt32, Int.bmod_eq_of_le] <;> omega
      rw [Int32.le_iff_toInt_le, Int32.le_iff_toInt_le, et, show (0 : Int32).toInt = 0 from by decide, show (99 : Int32).toInt = 99 from by decide]
      omega
    · rw [if_neg h, if_neg h]; exact ⟨a, b⟩
theorem lyF_e {g1 g2 : Nat → Int64} {n : Nat} (h : g1 n = g2 n) (f : Nat → Int32) : lyF g1 n f = lyF g2 n f := by
  unfold lyF
  generalize g1 n = x at h
  subst h
  rfl
theorem lyF_c {g1 g2 : Nat → Int64} : ∀ n, (∀ i, i < n → g1 i = g2 i) → ∀ f, itF (lyF g1) n f = itF (lyF g2) n f := by
  intro n
  induction n with
  | zero => intro _ f; exact (rfl : f = f)
  | succ n ih =>
    intro h f
    exact (congrArg (lyF g1 n) (ih (fun i hi => h i (by omega)) f)).trans (lyF_e (h n (by omega)) _)
theorem S_lays {s : Int32} (I : IV o f0 f2 q mf) : Sim (c_lays o f0 f2 s) (r_lays q mf s) := by
  obtain ⟨a1, a2, -, -, -, -, -, -, z1, z2, z3⟩ := id I
  unfold c_lays r_lays
  split
  · rename_i h
    have hs := six4 h
    rw [← (z2 _ hs).1, ← (z2 _ hs).2, a2.T]
    have hz := (z1 _ hs).2
    have h8 := a1.h8
    split
    · exact I.f (j := 5) (by decide)
    · have eg : ∀ i, i < min (ix (oZ o (ix s))) (nT f0) → nu (qC q) (ix s) i = oN o (ix s) i := fun i hi => (z3 _ i hs (by omega)).symm
      rw [lyN_c _ eg, lyF_c _ eg]
      have := lyF_P (gs := oN o (ix s)) (min (ix (oZ o (ix s))) (nT f0)) (by omega) f0 mf a1 a2
      exact ⟨rfl, fun g e => (I.pic this.1 this.2).m e⟩
  · exact I.f (j := 0) (by decide)
theorem S_book {s b : Int32} (I : IV o f0 f2 q mf) : Sim (c_book o f0 f2 s b) (r_book q mf s b) := by
  obtain ⟨a1, a2, -, -, -, -, -, -, z1, z2, z3⟩ := id I
  unfold c_book r_book
  rw [a2 4 (by omega)]
  split
  · rename_i h
    have hs := six4 h
    rw [← (z2 _ hs).1, ← (z2 _ hs).2]
    split
    · exact I.f (j := 5) (by decide)
    split
    · rename_i hb
      have hi := ixB a1.1.1 hb
      refine ⟨rfl, fun g e => (I.sh z1 z2 (fun t k ht hk => ?_)).m e⟩
      unfold va_up bkL bkQ
      by_cases e : t = ix s
      · subst e
        rw [if_pos rfl]
        have hz := (z1 _ hs).2
        by_cases e2 : k < ix (oZ o (ix s))
        · rw [if_pos e2, if_pos (by omega), Nat.add_sub_cancel_left]
          show cut _ (Int32.toInt64 (hsC k f0 (45 + 4 * ix b + 2))) = cut _ (Int32.toInt64 (hsC k mf (45 + 4 * ix b + 2)))
          rw [hsL_b a1 a2 hi (by decide)]
        · rw [if_neg e2, if_neg (by omega)]; exact z3 _ k hs hk
      · have hz := (z1 _ hs).2
        rw [if_neg e, if_neg (by omega)]; exact z3 t k ht hk
    · exact I.f (j := 0) (by decide)
  · exact I.f (j := 0) (by decide)
theorem al_cb {P P' : Nat → Prop} [DecidablePred P] [DecidablePred P'] : ∀ k t, (∀ i, t ≤ i → i < t + k → (P i ↔ P' i)) → al P k t = al P' k t := by
  intro k
  induction k with
  | zero => intro t _; rfl
  | succ k ih =>
    intro t h
    rw [al, al, ih (t + 1) (fun i h1 h2 => h i (by omega) (by omega))]
    have ht := h t (by omega) (by omega)
    by_cases q : P t
    · rw [if_pos q, if_pos (ht.mp q)]
    · rw [if_neg q, if_neg (fun z => q (ht.mpr z))]
theorem S_read {s b : Int32} (I : IV o f0 f2 q mf) : Sim (c_read o f0 f2 s b) (r_read q mf s b) := by
  obtain ⟨a1, a2, -, -, -, -, -, -, z1, z2, z3⟩ := id I
  unfold c_read r_read
  rw [a2 4 (by omega)]
  split
  · rename_i h
    have hs := six4 h
    rw [← (z2 _ hs).1, ← (z2 _ hs).2]
    split
    · exact I.f (j := 5) (by decide)
    split
    · rename_i hb
      have hi := ixB a1.1.1 hb
      have h5 := a1.h5
      have hz := (z1 _ hs).2
      rw [sumI_c (a := rdN (nu (qC q) (ix s)) mf (ix (oZ o (ix s))) (ix b)) (b := rdN (oN o (ix s)) f0 (ix (oZ o (ix s))) (ix b)) 48 (fun c hc => by
        unfold rdN
        refine al_cb _ _ (fun i _ h2 => ?_)
        unfold pb
        rw [show nu (qC q) (ix s) i = oN o (ix s) i from (z3 _ i hs (by omega)).symm, hsL_b (a1.at (by omega) (cell_of hc)) (a2.u (by omega) (by omega)) (by rw [nB_of (f := f0) (pk_un (by omega))]; exact hi) (by decide)])]
      exact ⟨rfl, fun g e => I.m e⟩
    · exact I.f (j := 0) (by decide)
  · exact I.f (j := 0) (by decide)
theorem S_lake {L : Nat} {f1 : Nat → Int32} (I : IV o f0 f2 q mf) (hL : L ≤ 120) : Sim (c_lake o L f0 f1 f2) (r_lake q L mf) := by
  obtain ⟨a1, a2, a3, a4, a5, a6, a7, a8, a9⟩ := id I
  have l1 : lvE f0 (bcF f0 f1) := bcF_lv a1.h8
  have r := rdA_Q (b := o.2.2.2.1) (L := L) 120 1 (tok o.2.2.2.1 L 0) (bcF f0 f1) mf (l1.okP a1) (l1.sy.tr a2) (tok_ok (Nat.zero_le _)).1
  unfold c_lake r_lake
  rw [← a7]
  generalize rdA o.2.2.2.1 L 120 1 (tok o.2.2.2.1 L 0) (bcF f0 f1) = r1 at r ⊢
  generalize rdA o.2.2.2.1 L 120 1 (tok o.2.2.2.1 L 0) mf = r2 at r ⊢
  obtain ⟨e1, e2, e3, e4⟩ := r
  refine ⟨by show Value.int _ = Value.int _; rw [e1], fun g e => ?_⟩
  have key : ∀ (f0' mf' : Nat → Int32), okP f0' → lvE f0' mf' → eq65 mf' g → IV (oT (oK o r1.2.2) 0 o.2.2.2.1) f0' f2 (qT (qX q r2.2.2 (if r2.1 < 0 then 1 else 0)) 0 o.2.2.2.1) g := fun f0' mf' k1 k2 k3 =>
    ⟨k1, k2.tr (k3.lv (k2.okN k1.1.1)), a3, a4, a5, a6, rfl, ⟨0, by decide, rfl, rfl⟩, a9⟩
  show IV _ (if r1.1 < 0 then f0 else bcF r1.2.1 f0) f2 _ g
  have e' : eq65 (if r2.1 < 0 then mf else r2.2.1) g := e
  rw [← e1] at e' ⊢
  by_cases h : r1.1 < 0
  · rw [if_pos h] at e' ⊢
    have := key f0 mf a1 a2 e'
    rw [← e1, if_pos h] at this
    exact this
  · rw [if_neg h] at e' ⊢
    have l2 : lvE r1.2.1 (bcF r1.2.1 f0) := bcF_lv e4.h8
    have := key (bcF r1.2.1 f0) r2.2.1 (l2.okP e4) (l2.sy.tr e3) e'
    rw [← e1, if_neg h] at this
    exact this
end

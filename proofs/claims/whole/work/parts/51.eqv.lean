/-! both sides answer alike: calls that look at the picture alone -/
def spE (a b : SP) : Prop := a.1 = b.1 ∧ a.2.1 = b.2.1 ∧ lvE a.2.2 b.2.2 ∧ okP a.2.2 ∧ ∀ j, a.2.1 = some j → j < 7
theorem spE.no {f g : Nat → Int32} {x : Int32} (e : lvE f g) (ok : okP f) : spE (x, none, f) (x, none, g) := ⟨rfl, rfl, e, ok, fun _ h => by cases h⟩
theorem spE.fi {f g : Nat → Int32} {x : Int32} {j : Nat} (e : lvE f g) (ok : okP f) (hj : j < 7) : spE (x, some j, f) (x, some j, g) := ⟨rfl, rfl, e, ok, fun _ h => by cases h; exact hj⟩
section
variable {f g : Nat → Int32} {a b c n t w v k h : Int32}
theorem ixT (ok : okN f) (q : 0 ≤ t ∧ t < f 3) : ix t < nT f := by
  obtain ⟨j, hj, rfl⟩ := idxT ok q
  have := ok.2.1
  rw [show ix (nI j) = j from nI_clamp (by omega)]; exact hj
theorem ixB (ok : okN f) (q : 0 ≤ b ∧ b < f 4) : ix b < nB f := by
  obtain ⟨j, hj, rfl⟩ := idxB ok q
  have := ok.2.2.2
  rw [show ix (nI j) = j from nI_clamp (by omega)]; exact hj
theorem ix_le {x m : Int32} {M : Nat} (q : 0 ≤ x ∧ x ≤ m) (hm : m.toInt = M) (hM : M < 2 ^ 31) : ix x ≤ M := by
  obtain ⟨j, hj, rfl⟩ := rngN (n := M) q hm
  rw [show ix (nI j) = j from nI_clamp (by omega)]; exact hj
theorem E_wind (ok : okP f) (e : lvE f g) : spE (sp_wind f w v) (sp_wind g w v) := by
  unfold sp_wind
  rw [e 1 (by omega), e 2 (by omega)]
  split
  · exact ⟨rfl, rfl, e.u (by decide) (by decide), ok.lo (by decide), fun _ h => by cases h⟩
  split
  · exact ⟨rfl, rfl, e.u (by decide) (by decide), ok.lo (by decide), fun _ h => by cases h⟩
  · exact .fi e ok (by decide)
theorem E_cell (ok : okP f) (e : lvE f g) : spE (sp_cell f (glC f c) (orI (oC f c) (nT f)) (orI (bA f c) (nB f)) (sumI (tC f c) (nT f)) c w) (sp_cell g (glR g c) (orI (oR g c) (nT g)) (orI (bA g c) (nB g)) (sumI (tR g c) (nT g)) c w) := by
  have okg := e.okP ok
  rw [glR_C okg, glC_lv e, soR_C okg, soC_lv e, sbA_lv e, stR_C okg, stC_lv e]
  unfold sp_cell
  (repeat' split) <;> first | exact .no e ok | exact .fi e ok (by decide)
theorem E_thing (ok : okP f) (e : lvE f g) : spE (sp_thing f k c h) (sp_thing g k c h) := by
  unfold sp_thing
  rw [e 3 (by omega)]
  split
  · rename_i q
    split
    · exact .fi e ok (by decide)
    · rename_i q2
      have h8 := lt_of8 ok.1.1 (Int32.not_le.mp q2)
      exact ⟨rfl, rfl, aT_lv ok.1.1 h8 e, aT_P ok h8 q.1 q.2.2 (by decide), fun _ h => by cases h⟩
  · exact .fi e ok (by decide)
theorem shW_lv (e : lvE f g) {j : Nat} (hj : j < nT f) : ∀ n, sumI (shW g j) n = sumI (shW f j) n := fun n => sumI_c n (fun r _ => by unfold shW; rw [e _ (by omega), e _ (by omega)])
theorem E_of (ok : okP f) (e : lvE f g) : spE (sp_of f (rC f (ix t)) (sumI (shW f (ix t)) (ix (rC f (ix t)))) t w) (sp_of g (rR g (ix t)) (sumI (shW g (ix t)) (ix (rR g (ix t)))) t w) := by
  have okg := e.okP ok
  unfold sp_of
  rw [e 3 (by omega)]
  split
  · rename_i q
    have hi := ixT ok.1.1 q
    rw [rR_C okg (by rw [e.T]; exact hi), rC_lv e hi, shW_lv e hi]
    split
    · rename_i q2
      have hw := ix_le (M := 4) q2 (by decide) (by decide)
      rw [e _ (by omega)]
      exact .no e ok
    · rw [show g (5 + 5 * ix t) = f (5 + 5 * ix t) from e _ (by omega), show g (5 + 5 * ix t + 4) = f (5 + 5 * ix t + 4) from e _ (by omega)]
      (repeat' split) <;> first | exact .no e ok | exact .fi e ok (by decide)
  · exact .fi e ok (by decide)
theorem E_set (ok : okP f) (e : lvE f g) : spE (sp_set f t w v) (sp_set g t w v) := by
  unfold sp_set
  rw [e 3 (by omega)]
  split
  · rename_i q
    have hi := ixT ok.1.1 q.1
    have h8 := ok.h8
    have hw : 1 ≤ ix w ∧ ix w ≤ 4 := by
      rcases may4 q.2 with z | z | z | z <;> subst z <;> decide
    rw [e _ (by omega)]
    refine ⟨rfl, rfl, e.u (by omega) (by omega), ?_, fun _ h => by cases h⟩
    rcases q.2 with ⟨z, z2⟩ | ⟨z, z2⟩ | ⟨z, z2⟩ | ⟨z, z2⟩ <;> subst z
    · exact ok.cf (t := ix t) (by omega) (Or.inl rfl)
    · exact ok.he (by omega) z2
    · exact ok.li (by omega) z2
    · exact ok.cf (t := ix t) (by omega) (Or.inr rfl)
  · exact .fi e ok (by decide)
theorem E_turn (ok : okP f) (e : lvE f g) : spE (sp_turn f t k) (sp_turn g t k) := by
  unfold sp_turn
  rw [e 3 (by omega)]
  split
  · rename_i q
    have hi := ixT ok.1.1 q.1
    have h8 := ok.h8
    rw [e _ (by omega)]
    exact ⟨rfl, rfl, e.u (by omega) (by omega), ok.ki (by omega) q.2, fun _ h => by cases h⟩
  · exact .fi e ok (by decide)
theorem E_as (ok : okP f) (e : lvE f g) : spE (sp_as f t k) (sp_as g t k) := by
  unfold sp_as
  rw [e 3 (by omega)]
  split
  · rename_i q
    have hi := ixT ok.1.1 q.1
    rw [show g (5 + 5 * ix t) = f (5 + 5 * ix t) from e _ (by omega), show g (5 + 5 * ix t + 3) = f (5 + 5 * ix t + 3) from e _ (by omega)]
    split
    · exact .no e ok
    · exact .fi e ok (by decide)
  · exact .fi e ok (by decide)
theorem E_boat (ok : okP f) (e : lvE f g) : spE (sp_boat f c) (sp_boat g c) := by
  unfold sp_boat
  rw [e 4 (by omega)]
  split
  · rename_i q
    split
    · exact .fi e ok (by decide)
    · rename_i q2
      exact ⟨rfl, rfl, aB_lv ok.1.1 e, aB_P ok (lt_of5 ok.1.1 (Int32.not_le.mp q2)) q (by decide), fun _ h => by cases h⟩
  · exact .fi e ok (by decide)
theorem E_told (ok : okP f) (e : lvE f g) : spE (sp_told f (tkC f (ix b)) b w) (sp_told g (tkR g (ix b)) b w) := by
  have okg := e.okP ok
  unfold sp_told
  rw [e 4 (by omega)]
  split
  · rename_i q
    have hi := ixB ok.1.1 q
    obtain ⟨v, ho, -, -, e1, e2⟩ := tk_n okg (by rw [e.B]; exact hi)
    rw [show tkR g (ix b) = tkC f (ix b) from by rw [e2, ← e1]; exact tkC_lv e hi]
    split
    · rename_i q2
      have hw := ix_le (M := 3) q2 (by decide) (by decide)
      rw [e _ (by omega)]
      exact .no e ok
    · (repeat' split) <;> first | exact .no e ok | exact .fi e ok (by decide)
  · exact .fi e ok (by decide)
theorem E_fit (ok : okP f) (e : lvE f g) : spE (sp_fit f b w v) (sp_fit g b w v) := by
  unfold sp_fit
  rw [e 4 (by omega)]
  split
  · rename_i q
    have hi := ixB ok.1.1 q.1
    have h5 := ok.h5
    have hw : ix w ≤ 1 := by
      rcases q.2 with ⟨z, -⟩ | ⟨z, -⟩ <;> subst z <;> decide
    rw [e _ (by omega)]
    refine ⟨rfl, rfl, e.u (by omega) (by omega), ?_, fun _ h => by cases h⟩
    rcases q.2 with ⟨z, z2⟩ | ⟨z, z2⟩ <;> subst z
    · exact ok.at (by omega) z2
    · exact ok.ne (by omega) z2
  · exact .fi e ok (by decide)
theorem E_hours (ok : okP f) (e : lvE f g) : spE (sp_hours f (hsC (ix n) f) n) (sp_hours g (hsR (ix n) g) n) := by
  have okg := e.okP ok
  unfold sp_hours
  rw [(hs_P okg).1, e 0 (by omega)]
  have e' := hsC_lv (n := ix n) e ok.h8
  split
  · split
    · exact .fi e ok (by decide)
    · rw [ssB_lv e' (by decide)]
      exact ⟨rfl, rfl, e', (hs_P ok).2, fun _ h => by cases h⟩
  · exact .fi e ok (by decide)
theorem E_now (ok : okP f) (e : lvE f g) : spE (sp_now f (sumI (gAC f) 48) w) (sp_now g (sumI (gAR g) 48) w) := by
  have okg := e.okP ok
  unfold sp_now
  rw [gAR_C okg, sgC_lv e, slA_lv e, sdA_lv e, e 0 (by omega), e 1 (by omega), e 2 (by omega)]
  (repeat' split) <;> first | exact .no e ok | exact .fi e ok (by decide)
theorem E_on (ok : okP f) (e : lvE f g) : spE (sp_on f (hsC (ix n) f) b n w) (sp_on g (hsC (ix n) g) b n w) := by
  unfold sp_on
  rw [e 4 (by omega)]
  split
  · rename_i q
    have hi := ixB ok.1.1 q.1
    rw [hsL_b ok e hi (by decide), hsL_b ok e hi (by decide)]
    exact .no e ok
  · exact .fi e ok (by decide)
theorem E_light (ok : okP f) (e : lvE f g) : spE (sp_light f (hsC (ix n) f) t n) (sp_light g (hsC (ix n) g) t n) := by
  unfold sp_light
  rw [e 3 (by omega)]
  split
  · rename_i q
    rw [hsL_t ok e (ixT ok.1.1 q.1) (by decide)]
    exact .no e ok
  · exact .fi e ok (by decide)
theorem srch_c {P Q : Nat → Prop} [DecidablePred P] [DecidablePred Q] (h : ∀ i, P i ↔ Q i) : ∀ k t, srch P k t = srch Q k t := by
  intro k
  induction k with
  | zero => intro t; rfl
  | succ k ih =>
    intro t
    rw [srch, srch, ih]
    by_cases q : P t
    · rw [if_pos q, if_pos ((h t).mp q)]
    · rw [if_neg q, if_neg (fun z => q ((h t).mpr z))]
theorem E_orN (ok : okP f) (e : lvE f g) {r : Option Nat} : spE (orN f r) (orN g r) := by
  cases r with
  | none => exact .fi e ok (by decide)
  | some n => exact .no e ok
theorem E_orM (ok : okP f) (e : lvE f g) {r : Int32} : spE (orM f r) (orM g r) := by
  unfold orM; split
  · exact .fi e ok (by decide)
  · exact .no e ok
theorem E_full (ok : okP f) (e : lvE f g) : spE (sp_full f (srch (fun n => v ≤ hsC n f (45 + 4 * ix b + 2)) 73 0) b v) (sp_full g (srch (fun n => v ≤ hsC n g (45 + 4 * ix b + 2)) 73 0) b v) := by
  unfold sp_full
  rw [e 4 (by omega)]
  split
  · rename_i q
    rw [srch_c (P := fun n => v ≤ hsC n g (45 + 4 * ix b + 2)) (Q := fun n => v ≤ hsC n f (45 + 4 * ix b + 2)) (fun i => by rw [hsL_b ok e (ixB ok.1.1 q.1) (by decide)])]
    exact E_orN ok e
  · exact .fi e ok (by decide)
theorem E_dark (ok : okP f) (e : lvE f g) : spE (sp_dark f (srch (fun n => hsC n f (5 + 5 * ix t + 3) = 0) 73 0) t) (sp_dark g (srch (fun n => hsC n g (5 + 5 * ix t + 3) = 0) 73 0) t) := by
  unfold sp_dark
  rw [e 3 (by omega)]
  split
  · rename_i q
    rw [srch_c (P := fun n => hsC n g (5 + 5 * ix t + 3) = 0) (Q := fun n => hsC n f (5 + 5 * ix t + 3) = 0) (fun i => by rw [hsL_t ok e (ixT ok.1.1 q) (by decide)])]
    exact E_orN ok e
  · exact .fi e ok (by decide)
theorem amx_c {G G' : Nat → Int32} {m b : Int32} : ∀ n, (∀ t, t < n → G t = G' t) → amx G m b n = amx G' m b n := by
  intro n
  induction n with
  | zero => intro _; rfl
  | succ n ih => intro h; rw [amx, amx, ih (fun t ht => h t (by omega)), h n (by omega)]
theorem amn_c {G G' : Nat → Int32} {m b : Int32} : ∀ n, (∀ t, t < n → G t = G' t) → amn G m b n = amn G' m b n := by
  intro n
  induction n with
  | zero => intro _; rfl
  | succ n ih => intro h; rw [amn, amn, ih (fun t ht => h t (by omega)), h n (by omega)]
theorem E_brightest (ok : okP f) (e : lvE f g) : spE (orM f (amx (fun c => glC f (nI c)) 0 (-1) 48).2) (orM g (amx (fun c => glC g (nI c)) 0 (-1) 48).2) := by
  rw [amx_c (G := fun c => glC g (nI c)) (G' := fun c => glC f (nI c)) 48 (fun t _ => glC_lv e)]
  exact E_orM ok e
theorem E_spot (ok : okP f) (e : lvE f g) {m0 : Int32} : spE (sp_best f (amx (Gs f (ix b) (ix n) (45 + 4 * ix b)) m0 0 48).2 b n (f 4)) (sp_best g (amx (Gs g (ix b) (ix n) (45 + 4 * ix b)) m0 0 48).2 b n (g 4)) := by
  unfold sp_best
  rw [e 4 (by omega)]
  split
  · rename_i q
    have hi := ixB ok.1.1 q.1
    have h5 := ok.h5
    rw [amx_c (G := Gs g (ix b) (ix n) (45 + 4 * ix b)) (G' := Gs f (ix b) (ix n) (45 + 4 * ix b)) 48 (fun t ht => wo_hsu (ok.at (by omega) (cell_of ht)) e (by omega) (by omega) hi)]
    exact .no e ok
  · exact .fi e ok (by decide)
theorem E_net (ok : okP f) (e : lvE f g) {m0 : Int32} : spE (sp_best f (amx (Gs f (ix b) (ix n) (45 + 4 * ix b + 1)) m0 0 100).2 b n (f 4)) (sp_best g (amx (Gs g (ix b) (ix n) (45 + 4 * ix b + 1)) m0 0 100).2 b n (g 4)) := by
  unfold sp_best
  rw [e 4 (by omega)]
  split
  · rename_i q
    have hi := ixB ok.1.1 q.1
    have h5 := ok.h5
    rw [amx_c (G := Gs g (ix b) (ix n) (45 + 4 * ix b + 1)) (G' := Gs f (ix b) (ix n) (45 + 4 * ix b + 1)) 100 (fun t ht => wo_hsu (ok.ne (by omega) (rg_of (m := 99) (by omega) (by decide))) e (by omega) (by omega) hi)]
    exact .no e ok
  · exact .fi e ok (by decide)
theorem E_kind (ok : okP f) (e : lvE f g) {m0 : Int32} : spE (sp_best f (amx (Ga f (ix n) (5 + 5 * ix t)) m0 0 6).2 t n (f 3)) (sp_best g (amx (Ga g (ix n) (5 + 5 * ix t)) m0 0 6).2 t n (g 3)) := by
  unfold sp_best
  rw [e 3 (by omega)]
  split
  · rename_i q
    have hi := ixT ok.1.1 q.1
    have h8 := ok.h8
    rw [amx_c (G := Ga g (ix n) (5 + 5 * ix t)) (G' := Ga f (ix n) (5 + 5 * ix t)) 6 (fun z hz => woA_hsu (ok.ki (by omega) (rg_of (m := 5) (by omega) (by decide))) e (by omega) (by omega))]
    exact .no e ok
  · exact .fi e ok (by decide)
theorem E_time (ok : okP f) (e : lvE f g) {m0 : Int32} : spE (sp_time f (amx (Gh f c) m0 0 24).2 c) (sp_time g (amx (Gh g c) m0 0 24).2 c) := by
  unfold sp_time
  split
  · rw [amx_c (G := Gh g c) (G' := Gh f c) 24 (fun t ht => glC_lv (e.u (by decide) (by decide)))]
    exact .no e ok
  · exact .fi e ok (by decide)
theorem E_gives (ok : okP f) (e : lvE f g) {m0 : Int32} : spE (sp_gives f (amn (Gl f (ix b) (ix n)) (wo (hsC (ix n) f) (ix b)) m0 (nT f)).2 b n) (sp_gives g (amn (Gl g (ix b) (ix n)) (wo (hsC (ix n) g) (ix b)) m0 (nT g)).2 b n) := by
  unfold sp_gives
  rw [e 4 (by omega), e.T]
  split
  · rename_i q
    have hi := ixB ok.1.1 q.1
    have h8 := ok.h8
    rw [show wo (hsC (ix n) g) (ix b) = wo (hsC (ix n) f) (ix b) from wo_hs ok e hi, amn_c (G := Gl g (ix b) (ix n)) (G' := Gl f (ix b) (ix n)) (nT f) (fun t ht => wo_hsu (ok.li (by omega) (by decide)) e (by omega) (by omega) hi)]
    exact E_orM ok e
  · exact .fi e ok (by decide)
theorem E_rival {b' : Int32} (ok : okP f) (e : lvE f g) : spE (sp_rival f (wo (hsC (ix n) (upd f (45 + 4 * ix b' + 1) 0)) (ix b) - wo (hsC (ix n) f) (ix b)) b b' n) (sp_rival g (wo (hsC (ix n) (upd g (45 + 4 * ix b' + 1) 0)) (ix b) - wo (hsC (ix n) g) (ix b)) b b' n) := by
  unfold sp_rival
  rw [e 4 (by omega)]
  split
  · rename_i q
    have hi := ixB ok.1.1 q.1.1
    have hi' := ixB ok.1.1 q.1.2.1
    have h5 := ok.h5
    rw [show wo (hsC (ix n) g) (ix b) = wo (hsC (ix n) f) (ix b) from wo_hs ok e hi, show wo (hsC (ix n) (upd g (45 + 4 * ix b' + 1) 0)) (ix b) = wo (hsC (ix n) (upd f (45 + 4 * ix b' + 1) 0)) (ix b) from wo_hsu (ok.ne (by omega) (by decide)) e (by omega) (by omega) hi]
    exact .no e ok
  · exact .fi e ok (by decide)
theorem E_way (ok : okP f) (e : lvE f g) : spE (sp_way f a b) (sp_way g a b) := by
  unfold sp_way
  rw [srch_c (P := rpl g) (Q := rpl f) (fun i => by unfold rpl; rw [e 1 (by omega)])]
  split
  · cases srch (rpl f) (wyR (ix a) (ix b) + 1 - wyL (ix a) (ix b)) (wyL (ix a) (ix b)) with
    | none => exact .no e ok
    | some x => exact .fi e ok (by decide)
  · exact .fi e ok (by decide)
theorem re_n (ok : okP f) : ∀ t, t < nT f → rng6 (rC f t) := by
  intro t ht
  have hh := (ok.2.1 t ht).2.1
  obtain ⟨j, hj, ej⟩ := rng1 (n := 6) hh (by decide)
  have key : ∀ m, m ≤ 6 → rng6 (nI m) := fun m hm => ⟨by unfold ix; rw [nI_clamp (by omega)], by unfold ix; rw [nI_clamp (by omega)]; exact hm⟩
  have e1 : tw6 (f (5 + 5 * t + 2)) = nI (min (j + 1) 6) := by rw [ej, tw6_n (by omega)]
  unfold rC
  rw [e1, ej]
  unfold rch
  (repeat' split) <;> first | exact key _ (by omega) | exact key 0 (by omega) | exact key 6 (by omega) | (rw [show (2 : Int32) = nI 2 from rfl, pk_div (by omega) (by decide) (by decide)]; exact key _ (by omega))
end

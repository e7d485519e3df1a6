section
variable {X : xS} {d : Nat} {lk : Nat → Nat → Int32} {o : xO} {mf wf : Nat → Int32} {q : xQ} {f : Nat → Int32} {L K : Nat}
set_option maxRecDepth 100000 in
theorem lp_X5_shineOfAllRows {i : Nat} (hL : L < 3) (hi : i < 8) (hr : rng6 (rC f i)) : ∀ (k tq : Nat), tq + k = ix (rC f i) → xGo X false (d + 2) 0 0 mX5_shineOfAllRows 11 [some (.ref (3 + 16 * L + i)), some (.int (f 0)), some (.int (sumI (shW f i) tq)), some (.int (nI (ix (rC f i)))), some (.int (nI tq))] [] (hp (va_up lk L f) o mf wf q) (fun v h' => v = [.int (sumI (shW f i) (ix (rC f i)))] ∧ h' = hp (va_up lk L f) o mf wf q) := by
  intro k
  induction k with
  | zero =>
    intro tq ht
    have h6 := hr.2
    have etq : tq = ix (rC f i) := by omega
    subst etq
    refine xg_iload (pc := 11) dX5_shineOfAllRows_11 rfl ?_
    refine xg_iload_n (pc := 13) dX5_shineOfAllRows_13 rfl ?_
    refine xg_icmp_ge (pc := 14) (tgt := 32) dX5_shineOfAllRows_14 (by decide) (fun c_14 => ?_) (fun c_14 => absurd c_14 (fun q => q (nI_le (by omega) (by omega))))
    refine xg_iload_n (pc := 32) dX5_shineOfAllRows_32 rfl ?_
    exact xg_iret (pc := 33) dX5_shineOfAllRows_33 rfl (⟨by rfl, rfl⟩)
  | succ k ih =>
    intro tq ht
    have h6 := hr.2
    refine xg_iload (pc := 11) dX5_shineOfAllRows_11 rfl ?_
    refine xg_iload_n (pc := 13) dX5_shineOfAllRows_13 rfl ?_
    refine xg_icmp_ge (pc := 14) (tgt := 32) dX5_shineOfAllRows_14 (by decide) (fun c_14 => absurd c_14 (nI_ge (by omega) (by omega))) (fun c_14 => ?_)
    refine xg_iload_n (pc := 17) dX5_shineOfAllRows_17 rfl ?_
    refine xg_aload_n (pc := 18) dX5_shineOfAllRows_18 rfl ?_
    refine xg_iload (pc := 19) dX5_shineOfAllRows_19 rfl ?_
    refine xg_cvI (pc := 21) (h1 := hp (va_up lk L f) o mf wf q) (x := shn (f (5 + 5 * i)) (f (5 + 5 * i + 3)) (nI tq)) (M' := mX5_shine) dX5_shineOfAllRows_21 lkX5_39 mcX5_shine (hp_thing hL (by omega)) rfl (ev_X5_shine (i := i) hL (by omega) (nI_pos (by omega)) (by rw [nI_1]; exact nI_ne0 (by omega) (by omega))) rfl rfl (Nat.le_of_ble_eq_true rfl) ?_
    refine xg_iadd (pc := 24) dX5_shineOfAllRows_24 ?_
    refine xg_istore_n (pc := 25) (ls' := [some (.ref (3 + 16 * L + i)), some (.int (f 0)), some (.int ((sumI (shW f i) tq) + (shn (f (5 + 5 * i)) (f (5 + 5 * i + 3)) (nI tq)))), some (.int (nI (ix (rC f i)))), some (.int (nI tq))]) dX5_shineOfAllRows_25 (by decide) rfl ?_
    refine xg_iinc (pc := 26) (y := nI (tq + 1)) (ls' := [some (.ref (3 + 16 * L + i)), some (.int (f 0)), some (.int ((sumI (shW f i) tq) + (shn (f (5 + 5 * i)) (f (5 + 5 * i + 3)) (nI tq)))), some (.int (nI (ix (rC f i)))), some (.int (nI (tq + 1)))]) dX5_shineOfAllRows_26 rfl (xinc _) (by decide) rfl ?_
    refine xg_goto (pc := 29) (tgt := 11) dX5_shineOfAllRows_29 (by decide) ?_
    rw [show ((sumI (shW f i) tq) + (shn (f (5 + 5 * i)) (f (5 + 5 * i + 3)) (nI tq)) : Int32) = sumI (shW f i) (tq + 1) from by rw [sumI, shW]]
    exact ih (tq + 1) (by omega)
set_option maxRecDepth 100000 in
theorem ev_X5_shineOfAllRows {i : Nat} (hL : L < 3) (hi : i < 8) (hr : rng6 (rC f i)) : xDv X false (d + 2) mX5_shineOfAllRows [.ref (3 + 16 * L + i), .int (f 0)] (hp (va_up lk L f) o mf wf q) [.int (sumI (shW f i) (ix (rC f i)))] (hp (va_up lk L f) o mf wf q) := by
  refine xDv.of (ls := [some (.ref (3 + 16 * L + i)), some (.int (f 0)), none, none, none]) mcX5_shineOfAllRows.1.2.2.2.2 (Nat.le_of_ble_eq_true rfl) rfl ?_
  refine xg_iconst (v := 0) (pc := 0) dX5_shineOfAllRows_0 (by decide) ?_
  refine xg_istore_n (pc := 1) (ls' := [some (.ref (3 + 16 * L + i)), some (.int (f 0)), some (.int 0), none, none]) dX5_shineOfAllRows_1 (by decide) rfl ?_
  refine xg_aload_n (pc := 2) dX5_shineOfAllRows_2 rfl ?_
  refine xg_iload_n (pc := 3) dX5_shineOfAllRows_3 rfl ?_
  refine xg_cvI (pc := 4) (h1 := hp (va_up lk L f) o mf wf q) (x := rch (tw6 (f (5 + 5 * i + 2))) (f 0) (f (5 + 5 * i)) (f (5 + 5 * i + 2))) (M' := mX5_reach) dX5_shineOfAllRows_4 lkX5_35 mcX5_reach (hp_thing hL (by omega)) rfl (ev_X5_reach (i := i) hL (by omega)) rfl rfl (Nat.le_of_ble_eq_true rfl) ?_
  refine xg_eq hr.1 ?_
  refine xg_istore_n (pc := 7) (ls' := [some (.ref (3 + 16 * L + i)), some (.int (f 0)), some (.int 0), some (.int (nI (ix (rC f i)))), none]) dX5_shineOfAllRows_7 (by decide) rfl ?_
  refine xg_iconst (v := 0) (pc := 8) dX5_shineOfAllRows_8 (by decide) ?_
  refine xg_istore (pc := 9) (ls' := [some (.ref (3 + 16 * L + i)), some (.int (f 0)), some (.int 0), some (.int (nI (ix (rC f i)))), some (.int 0)]) dX5_shineOfAllRows_9 (by decide) rfl ?_
  exact lp_X5_shineOfAllRows hL hi hr (ix (rC f i)) 0 (by omega)
end
section
variable {X : xS} {d : Nat} {o : xO} {mf wf : Nat → Int32} {q : xQ} {f0 f1 f2 : Nat → Int32} {i : Nat}
theorem ev0_X5_shineOfAllRows (hi : i < 8) (hr : rng6 (rC f0 i)) : xDv X false (d + 2) mX5_shineOfAllRows [.ref (3 + 16 * 0 + i), .int (f0 0)] (hp (tri f0 f1 f2) o mf wf q) [.int (sumI (shW f0 i) (ix (rC f0 i)))] (hp (tri f0 f1 f2) o mf wf q) := by
  have := ev_X5_shineOfAllRows (X := X) (d := d) (lk := tri f0 f1 f2) (f := f0) (o := o) (mf := mf) (wf := wf) (q := q) (L := 0) (by decide) hi hr
  simp only [tri_up0] at this
  exact this
theorem six {x : Int32} (h : 0 ≤ x ∧ x ≤ 5) : x = 0 ∨ x = 1 ∨ x = 2 ∨ x = 3 ∨ x = 4 ∨ x = 5 := by
  obtain ⟨j, hj, e⟩ := rngN (n := 5) h (by decide)
  subst e
  have : j = 0 ∨ j = 1 ∨ j = 2 ∨ j = 3 ∨ j = 4 ∨ j = 5 := by omega
  rcases this with rfl | rfl | rfl | rfl | rfl | rfl <;> decide
theorem ev0_X5_isOfKind {a : Int32} (hi : i < 8) (hk : 0 ≤ f0 (5 + 5 * i) ∧ f0 (5 + 5 * i) ≤ 5) : xDv X false (d + 0) mX5_isOfKind [.ref (3 + 16 * 0 + i), .int a] (hp (tri f0 f1 f2) o mf wf q) [.int (if kof (f0 (5 + 5 * i)) a then 1 else 0)] (hp (tri f0 f1 f2) o mf wf q) := by
  rcases six hk with e | e | e | e | e | e
  · have := ev0_X5_isOfKind0 (X := X) (d := d) (f1 := f1) (f2 := f2) (o := o) (mf := mf) (wf := wf) (q := q) (a := a) hi e
    simp only [e]
    exact this
  · have := ev0_X5_isOfKind1 (X := X) (d := d) (f1 := f1) (f2 := f2) (o := o) (mf := mf) (wf := wf) (q := q) (a := a) hi e
    simp only [e]
    exact this
  · have := ev0_X5_isOfKind2 (X := X) (d := d) (f1 := f1) (f2 := f2) (o := o) (mf := mf) (wf := wf) (q := q) (a := a) hi e
    simp only [e]
    exact this
  · have := ev0_X5_isOfKind3 (X := X) (d := d) (f1 := f1) (f2 := f2) (o := o) (mf := mf) (wf := wf) (q := q) (a := a) hi e
    simp only [e]
    exact this
  · have := ev0_X5_isOfKind4 (X := X) (d := d) (f1 := f1) (f2 := f2) (o := o) (mf := mf) (wf := wf) (q := q) (a := a) hi e
    simp only [e]
    exact this
  · have := ev0_X5_isOfKind5 (X := X) (d := d) (f1 := f1) (f2 := f2) (o := o) (mf := mf) (wf := wf) (q := q) (a := a) hi e
    simp only [e]
    exact this
end
